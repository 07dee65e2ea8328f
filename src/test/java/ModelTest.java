import java.util.Random;

/** Random runs, each call answered by the class and by Model. */
public final class ModelTest {
    private static final int RUNS = 1200;
    private static final int CALLS = 60;

    private final Random random;
    private final AgeFerry ferry = new AgeFerry();
    private final Model model = new Model();
    private final String name;
    private final int many;

    private ModelTest(int run) {
        random = new Random(run);
        name = "run " + run + ": ";
        // Few in most runs, as Model tries all ways.
        many = run % 100 == 0 ? 9 + random.nextInt(2) : run % 20 == 1 ? 7 + random.nextInt(2) : random.nextInt(7);
    }

    public static void main(String[] args) {
        for (int run = 0; run < RUNS; run++) {
            new ModelTest(run).run();
            new ModelTest(run).texts();
        }
        Check.end("ModelTest");
    }

    private void due(String call, long got, long want) {
        Check.due(name + call, got, want);
    }

    private void run() {
        typePeople();
        laws();
        for (int call = 0; call < CALLS; call++) {
            switch (random.nextInt(4)) {
                case 0 -> change();
                case 1 -> askDays();
                case 2 -> askShares();
                default -> sheets();
            }
        }
        for (int what = 0; what <= 8; what++) {
            due("count(" + what + ")", ferry.count(what), model.count(what));
        }
        due("digest()", ferry.digest(), model.digest());
    }

    private void type(int b) {
        due("type(" + b + ")", ferry.type(b), model.type(b));
    }

    private void typePeople() {
        int range = random.nextBoolean() ? 121 : 1 + random.nextInt(20);
        for (int i = 0; i < many; i++) {
            String age = String.valueOf(random.nextInt(range));
            for (char c : ((i == 0 ? "" : ";") + age).toCharArray()) {
                type(c);
            }
        }
    }

    /** Texts that are seldom well. */
    private void texts() {
        String signs = random.nextBoolean() ? "0129;;" : "0;1;2;3;4;5;6;7;8;9;x";
        for (int k = random.nextInt(42); k > 0; k--) {
            type(signs.charAt(random.nextInt(signs.length())));
            due("fault()", ferry.fault(), model.fault());
            due("count(0)", ferry.count(0), model.count(0));
            due("count(2)", ferry.count(2), model.count(2));
        }
    }

    private void laws() {
        int greatest = random.nextBoolean() ? 100 : 3;
        for (int i = 0; i < 10; i++) {
            put(i, 0, random.nextInt(greatest));
            put(i, 1, random.nextInt(3) == 0 ? random.nextInt(greatest) : 0);
            if (random.nextInt(3) == 0) {
                lie(i, random.nextInt(61) - 30);
            }
        }
        for (int what = 0; what < 4; what++) {
            set(what, random.nextInt(what == 2 ? 100 : 5));
        }
        for (int k = random.nextInt(5); k > 0; k--) {
            pair(random.nextInt(3) == 0 ? 1 : 0, near(10), near(10), 1);
        }
    }

    /** From 0 below a bound, seldom outside. */
    private int near(int bound) {
        return switch (random.nextInt(40)) {
            case 0 -> -1;
            case 1 -> bound;
            case 2 -> random.nextInt();
            default -> random.nextInt(bound);
        };
    }

    private int someone() {
        return near(Math.max(1, many));
    }

    private void put(int number, int what, int v) {
        due("put(" + number + ", " + what + ", " + v + ")", ferry.put(number, what, v), model.put(number, what, v));
    }

    private void lie(int number, int v) {
        due("lie(" + number + ", " + v + ")", ferry.lie(number, v), model.lie(number, v));
    }

    private void set(int what, int v) {
        due("set(" + what + ", " + v + ")", ferry.set(what, v), model.set(what, v));
    }

    private void pair(int kind, int a, int b, int v) {
        due("pair(" + kind + ", " + a + ", " + b + ", " + v + ")", ferry.pair(kind, a, b, v), model.pair(kind, a, b, v));
    }

    private void change() {
        switch (random.nextInt(12)) {
            case 0 -> put(near(10), near(2), near(100));
            case 1 -> lie(near(10), near(61) - 30);
            case 2 -> set(near(4), near(5));
            case 3 -> pair(near(2), near(10), near(10), near(2));
            case 4 -> pair(0, near(10), near(10), 0);
            case 5 -> pair(1, near(10), near(10), 0);
            case 6 -> seen(near(10), near(10), near(201));
            case 7 -> seen(someone(), someone(), near(60));
            case 8 -> {
                int s = near(4);
                due("read(" + s + ")", ferry.read(s), model.read(s));
            }
            case 9 -> {
                if (random.nextInt(4) == 0) {
                    due("forget()", ferry.forget(), model.forget());
                }
            }
            case 10 -> {
                if (random.nextInt(8) == 0) {
                    type(near(256));
                    due("fault()", ferry.fault(), model.fault());
                }
            }
            default -> {
                if (random.nextInt(8) == 0) {
                    due("wipe()", ferry.wipe(), model.wipe());
                    typePeople();
                }
            }
        }
    }

    private void seen(int a, int b, int fare) {
        due("seen(" + a + ", " + b + ", " + fare + ")", ferry.seen(a, b, fare), model.seen(a, b, fare));
    }

    private void askDays() {
        int some = near(1 << many);
        int what = near(3);
        int one = someone();
        switch (random.nextInt(7)) {
            case 0 -> due("boat(" + some + ", " + what + ")", ferry.boat(some, what), model.boat(some, what));
            case 1 -> due("day(" + some + ", " + what + ")", ferry.day(some, what), model.day(some, what));
            case 2 -> due("with(" + one + ")", ferry.with(one), model.with(one));
            case 3 -> due("odd()", ferry.odd(), model.odd());
            case 4 -> due("person(" + one + ", " + what + ")", ferry.person(one, what), model.person(one, what));
            case 5 -> due("lot(" + some + ")", ferry.lot(some), model.lot(some));
            default -> {
                int seed = random.nextInt();
                due("lot(" + seed + ")", ferry.lot(seed), model.lot(seed));
            }
        }
    }

    private void askShares() {
        int one = someone();
        int what = near(2);
        int age = near(3);
        int longest = many > 8 ? near(3) : many > 6 ? near(9) : near(31);
        switch (random.nextInt(5)) {
            case 0 -> due("pays(" + one + ", " + what + ")", ferry.pays(one, what), model.pays(one, what));
            case 1 -> due("share(" + one + ", " + what + ")", ferry.share(one, what), model.share(one, what));
            case 2 -> due("lies(" + one + ", " + longest + ")", ferry.lies(one, longest), model.lies(one, longest));
            case 3 -> due("back()", ferry.back(), model.back());
            default -> due("ages(" + one + ", " + age + ")", ferry.ages(one, age), model.ages(one, age));
        }
    }

    private void sheets() {
        int s = near(4);
        int form = near(3);
        int i = near(12);
        int v = random.nextInt(10) == 0 ? random.nextInt() : random.nextInt(40) - 3;
        int n = near(13);
        switch (random.nextInt(10)) {
            case 0 -> due("sheet(" + s + ", " + form + ", " + n + ")", ferry.sheet(s, form, n), model.sheet(s, form, n));
            case 1 -> {
                if (random.nextInt(3) == 0) {
                    due("lose(" + s + ")", ferry.lose(s), model.lose(s));
                }
            }
            case 2, 3 -> due("lay(" + s + ", " + form + ", " + i + ", " + v + ")", ferry.lay(s, form, i, v),
                model.lay(s, form, i, v));
            case 4 -> due("get(" + s + ", " + form + ", " + i + ")", ferry.get(s, form, i), model.get(s, form, i));
            case 5 -> {
                int t = near(4);
                int j = near(4);
                due("copy(" + s + ", " + i + ", " + t + ", " + j + ", " + n + ")", ferry.copy(s, i, t, j, n),
                    model.copy(s, i, t, j, n));
            }
            case 6 -> due("write(" + s + ")", ferry.write(s), model.write(s));
            default -> toldDay();
        }
    }

    /** A SHEET with an item for each one, asked as a told DAY and as what each pays. */
    private void toldDay() {
        int s = random.nextInt(4);
        int form = random.nextInt(3);
        due("sheet", ferry.sheet(s, form, many), model.sheet(s, form, many));
        int bound = random.nextBoolean() ? 10 : 3;
        boolean byBest = random.nextBoolean();
        if (byBest) {
            due("write(" + s + ")", ferry.write(s), model.write(s));
        }
        for (int i = 0; i < many; i++) {
            if (!byBest || random.nextInt(8) == 0) {
                int v = near(bound);
                due("lay(.., " + i + ", " + v + ")", ferry.lay(s, form, i, v), model.lay(s, form, i, v));
            }
        }
        due("judged(" + s + ")", ferry.judged(s), model.judged(s));
        due("costs(" + s + ")", ferry.costs(s), model.costs(s));
        due("rather(" + s + ")", ferry.rather(s), model.rather(s));
        due("read(" + s + ")", ferry.read(s), model.read(s));
        for (int i = 0; i < many; i++) {
            due("get(.., " + i + ")", ferry.get(s, form, i), model.get(s, form, i));
        }
    }
}
