/** Promises 17 to 20: what one PAYS, SHARES, who would RATHER go otherwise, LIES that help. */
public final class SharesTest {
    public static void main(String[] args) {
        promise17Pays();
        promise18Share();
        promise19Rather();
        promise20Lies();
        Check.end("SharesTest");
    }

    private static void impossible(AgeFerry x) {
        x.pair(0, 0, 1, 1);
        x.pair(1, 0, 1, 1);
    }

    private static void promise17Pays() {
        AgeFerry x = Check.ferry("10;25;41", 3, 30);
        Check.due("pays(0, 0)", x.pays(0, 0), 31);
        Check.due("pays(0, 1)", x.pays(0, 1), 3);
        x.lie(2, -1);
        Check.due("pays(2, 0), lowest terms", x.pays(2, 0), 10);
        Check.due("pays(2, 1), lowest terms", x.pays(2, 1), 1);
        x.lie(0, 15);
        x.lie(2, -16);
        Check.due("pays(1, 0), nothing", x.pays(1, 0), 0);
        Check.due("pays(1, 1), nothing", x.pays(1, 1), 1);
        x.lie(0, 0);
        x.set(0, 2);
        Check.due("pays(0, 0), alone", x.pays(0, 0), 30);
        Check.due("pays(3, 0)", x.pays(3, 0), Check.longRefusal(2));
        Check.due("pays(-1, 0)", x.pays(-1, 0), Check.longRefusal(2));
        Check.due("pays(0, 2)", x.pays(0, 2), Check.longRefusal(2));
        Check.due("pays(0, -1)", x.pays(0, -1), Check.longRefusal(2));
        impossible(x);
        Check.due("pays(2, 0), NOT", x.pays(2, 0), Check.longRefusal(3));
    }

    private static void dueShare(AgeFerry x, int person, long above, long below) {
        Check.due("share(" + person + ", 0)", x.share(person, 0), above);
        Check.due("share(" + person + ", 1)", x.share(person, 1), below);
    }

    private static void promise18Share() {
        AgeFerry x = Check.ferry("10;25", 2, 20);
        dueShare(x, 0, 15, 2);
        dueShare(x, 1, 15, 2);
        // Two who won't go together: each saves 50 only by the third one.
        AgeFerry y = Check.ferry("5;5;5", 2, 50);
        y.pair(0, 0, 1, 1);
        dueShare(y, 2, -50, 3);
        dueShare(y, 0, 100, 3);
        y.set(2, 0);
        dueShare(y, 2, 0, 1);
        AgeFerry six = Check.ferry("5;5;5;5;5;5", 4, 1);
        // 1, 0, 0, 0, 1, -1 by place: the fifth stands beside a full boat, the sixth takes its place away.
        dueShare(six, 3, 0, 1);
        Check.due("share(2, 0) of two", x.share(2, 0), Check.longRefusal(2));
        Check.due("share(0, 2)", x.share(0, 2), Check.longRefusal(2));
        Check.due("share(0, -1)", x.share(0, -1), Check.longRefusal(2));
        impossible(x);
        Check.due("share(0, 0), NOT", x.share(0, 0), Check.longRefusal(3));
        AgeFerry seven = Check.ferry("5;5;5;5;5;5;5", 4, 1);
        Check.due("share of seven", seven.share(0, 0), Check.longRefusal(4));
        impossible(seven);
        Check.due("share of seven, FULL ahead of NOT", seven.share(0, 0), Check.longRefusal(4));
        Check.due("share of seven, BAD ahead of FULL", seven.share(7, 0), Check.longRefusal(2));
    }

    private static void dueRather(AgeFerry x, int want, int... items) {
        Check.sheet(x, 0, items);
        Check.due("rather(0) of " + java.util.Arrays.toString(items), x.rather(0), want);
    }

    private static void promise19Rather() {
        AgeFerry x = Check.ferry("10;25;41", 2, 20);
        Check.due("rather(-1)", x.rather(-1), AgeFerry.BAD);
        Check.due("rather(4)", x.rather(4), AgeFerry.BAD);
        Check.due("rather(0), LOST", x.rather(0), -11);
        dueRather(x, AgeFerry.NOT, 1, 2);
        dueRather(x, AgeFerry.NONE, 7, 8, 8);
        dueRather(x, AgeFerry.NONE, 7, 8, 8, 99);
        dueRather(x, 3, 8, 8, 20);
        dueRather(x, 1, 21, 0, 21);
        dueRather(x, 4, 7, 7, 21);
        dueRather(x, 6, 0, 10, 7);
        int most = Integer.MAX_VALUE;
        int least = Integer.MIN_VALUE;
        dueRather(x, 4, least, least, most);
        dueRather(x, AgeFerry.NONE, least, least + 40, least);
        impossible(x);
        dueRather(x, AgeFerry.NOT, 7, 8, 20);
        dueRather(x, AgeFerry.NOT, 70, 8, 20);
        AgeFerry nobody = new AgeFerry();
        nobody.sheet(0, 0, 0);
        Check.due("rather of nobody", nobody.rather(0), AgeFerry.NONE);
    }

    private static void promise20Lies() {
        AgeFerry x = Check.ferry("10;20", 2, 99);
        Check.due("lies(0, 30)", x.lies(0, 30), 10);
        Check.due("lies(0, 3)", x.lies(0, 3), 3);
        Check.due("lies(1, 3)", x.lies(1, 3), -3);
        Check.due("lies(0, 0)", x.lies(0, 0), 0);
        x.lie(0, 9);
        Check.due("lies(0, 3), whatever the LIE", x.lies(0, 3), 3);
        Check.due("lies(1, 3), the other as told", x.lies(1, 3), -1);
        Check.due("the LIE is as it was", x.lie(0, 0), 9);
        Check.due("the DAY is as it was", x.day(3, 0), 10);
        AgeFerry y = Check.ferry("10;5;15", 2, 99);
        Check.due("lies(0, 5), below 0", y.lies(0, 5), -5);
        Check.due("lies(0, 4), below 0", y.lies(0, 4), -4);
        y.set(2, 0);
        Check.due("lies(0, 30), nearest to 0", y.lies(0, 30), 0);
        // Three in a boat for 4 pay less than two for 3.
        AgeFerry z = Check.ferry("10;13;14", 3, 99);
        Check.due("lies(0, 0)", z.lies(0, 0), 0);
        Check.due("lies(0, 30)", z.lies(0, 30), 3);
        Check.due("lies(3, 0)", z.lies(3, 0), -1002);
        Check.due("lies(-1, 0)", z.lies(-1, 0), -1002);
        Check.due("lies(0, 31)", z.lies(0, 31), -1002);
        Check.due("lies(0, -1)", z.lies(0, -1), -1002);
        impossible(z);
        Check.due("lies(2, 3), NOT", z.lies(2, 3), -1003);
    }
}
