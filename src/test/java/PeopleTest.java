/** Promises 1 to 10: a new object, the text, what numbers have, the law, pairs. */
public final class PeopleTest {
    private static final String TEN = "1;2;3;4;5;6;7;8;9;1";

    public static void main(String[] args) {
        promise1NewObject();
        promise2Type();
        promise3Wipe();
        promise4Fault();
        promise5Person();
        promise6Put();
        promise7Lie();
        promise8Read();
        promise9Set();
        promise10Pair();
        Check.end("PeopleTest");
    }

    private static void promise1NewObject() {
        AgeFerry x = new AgeFerry();
        for (int what = 0; what <= 6; what++) {
            Check.due("new: count(" + what + ")", x.count(what), 0);
        }
        Check.due("new: count(7)", x.count(7), 2);
        Check.due("new: count(8)", x.count(8), 0);
        Check.due("new: fault()", x.fault(), AgeFerry.NONE);
        for (int s = 0; s < 4; s++) {
            Check.due("new: lose(" + s + ")", x.lose(s), -11);
        }
        for (int number = 0; number < 10; number++) {
            Check.due("new: WEIGHT " + number, x.put(number, 0, 1), 50);
            Check.due("new: COMES " + number, x.put(number, 1, 1), 0);
            Check.due("new: LIE " + number, x.lie(number, 1), 0);
        }
        Check.due("new: SIZE", x.set(0, 1), 2);
        Check.due("new: LAW", x.set(1, 1), 0);
        Check.due("new: ALONE", x.set(2, 1), 0);
        Check.due("new: WAIT", x.set(3, 1), 0);
    }

    private static void promise2Type() {
        AgeFerry x = new AgeFerry();
        Check.due("type(-1)", x.type(-1), AgeFerry.BAD);
        Check.due("type(256)", x.type(256), AgeFerry.BAD);
        Check.due("type(least)", x.type(Integer.MIN_VALUE), AgeFerry.BAD);
        Check.due("count(1) behind BAD", x.count(1), 0);
        Check.due("type(255)", x.type(255), 1);
        Check.due("type(0)", x.type(0), 2);
        for (int i = 3; i <= 40; i++) {
            Check.due("type(48), byte " + i, x.type(48), i);
        }
        Check.due("type, byte 41", x.type(48), AgeFerry.FULL);
        Check.due("type(256), byte 41", x.type(256), AgeFerry.BAD);
        Check.due("count(1) behind FULL", x.count(1), 40);
    }

    private static void promise3Wipe() {
        AgeFerry x = Check.ferry("10;20");
        x.lie(0, 3);
        x.put(0, 0, 9);
        Check.due("wipe()", x.wipe(), 5);
        Check.due("wipe() again", x.wipe(), 0);
        Check.due("count(0) behind wipe", x.count(0), 0);
        Check.due("fault() behind wipe", x.fault(), AgeFerry.NONE);
        Check.type(x, "7");
        Check.due("TOLD behind wipe", x.person(0, 1), 10);
        Check.due("WEIGHT behind wipe", x.put(0, 0, 1), 9);
    }

    private static void dueFault(String text, int want) {
        AgeFerry x = Check.ferry(text);
        Check.due("fault() of " + text, x.fault(), want);
        if (want != AgeFerry.NONE) {
            Check.due("count(0) of " + text, x.count(0), 0);
            Check.due("count(2) of " + text, x.count(2), 0);
            Check.due("person(0, 0) of " + text, x.person(0, 0), AgeFerry.BAD);
        }
    }

    private static void promise4Fault() {
        for (String well : new String[] {"", "0", "000", "007", "120", "0;120;99", TEN}) {
            dueFault(well, AgeFerry.NONE);
        }
        dueFault("121", 0);
        dueFault("999", 0);
        dueFault("1211", 0);
        dueFault("121x", 0);
        dueFault("0000", 3);
        dueFault("1200", 3);
        dueFault("5;121", 2);
        dueFault("5;121;x", 2);
        dueFault("12;3x;200", 4);
        dueFault(";", 0);
        dueFault(";5", 0);
        dueFault("5;", 2);
        dueFault("5;;6", 2);
        dueFault("5x", 1);
        dueFault("x", 0);
        dueFault(" 5", 0);
        dueFault("-5", 0);
        dueFault("/", 0);
        dueFault("5:", 1);
        dueFault("5;" + (char) 176, 2);
        dueFault(TEN + ";", 20);
        dueFault(TEN + ";1", 20);
        dueFault(TEN + ";121", 20);
        dueFault(TEN + "0", AgeFerry.NONE);
        dueFault("120;120;120;120;120;120;120;120;120;120;", 40);
    }

    private static void promise5Person() {
        AgeFerry x = Check.ferry("120;5;07");
        x.lie(0, 30);
        x.lie(1, -6);
        Check.due("person(0, 0)", x.person(0, 0), 120);
        Check.due("person(0, 1)", x.person(0, 1), 150);
        Check.due("person(1, 0)", x.person(1, 0), 5);
        Check.due("person(1, 1)", x.person(1, 1), 0);
        Check.due("person(2, 0)", x.person(2, 0), 7);
        Check.due("person(2, 1)", x.person(2, 1), 7);
        Check.due("person(3, 0)", x.person(3, 0), AgeFerry.BAD);
        Check.due("person(-1, 0)", x.person(-1, 0), AgeFerry.BAD);
        Check.due("person(0, 2)", x.person(0, 2), AgeFerry.BAD);
        Check.due("person(0, -1)", x.person(0, -1), AgeFerry.BAD);
    }

    private static void promise6Put() {
        AgeFerry x = new AgeFerry();
        Check.due("put(9, 0, 99)", x.put(9, 0, 99), 50);
        Check.due("put(9, 0, 0)", x.put(9, 0, 0), 99);
        Check.due("put(9, 1, 99)", x.put(9, 1, 99), 0);
        Check.due("put(9, 1, 0)", x.put(9, 1, 0), 99);
        Check.due("put(10, 0, 0)", x.put(10, 0, 0), AgeFerry.BAD);
        Check.due("put(-1, 0, 0)", x.put(-1, 0, 0), AgeFerry.BAD);
        Check.due("put(0, 2, 0)", x.put(0, 2, 0), AgeFerry.BAD);
        Check.due("put(0, -1, 0)", x.put(0, -1, 0), AgeFerry.BAD);
        Check.due("put(0, 0, 100)", x.put(0, 0, 100), AgeFerry.BAD);
        Check.due("put(0, 1, -1)", x.put(0, 1, -1), AgeFerry.BAD);
        Check.due("put behind BAD", x.put(0, 0, 1), 50);
    }

    private static void promise7Lie() {
        AgeFerry x = Check.ferry("20");
        Check.due("lie(0, -30)", x.lie(0, -30), 0);
        Check.due("lie(0, 30)", x.lie(0, 30), -30);
        Check.due("TOLD", x.person(0, 1), 50);
        Check.due("lie(0, 31)", x.lie(0, 31), -1002);
        Check.due("lie(0, -31)", x.lie(0, -31), -1002);
        Check.due("lie(10, 0)", x.lie(10, 0), -1002);
        Check.due("lie(-1, 0)", x.lie(-1, 0), -1002);
        Check.due("lie behind BAD", x.lie(0, -2), 30);
        Check.due("lie(9, 4), nobody there", x.lie(9, 4), 0);
    }

    private static void promise8Read() {
        AgeFerry x = new AgeFerry();
        Check.due("read(-1)", x.read(-1), AgeFerry.BAD);
        Check.due("read(4)", x.read(4), AgeFerry.BAD);
        Check.due("read(0), LOST", x.read(0), -11);
        Check.sheet(x, 0, 0, 99, -1, 7);
        Check.due("read up to below 0", x.read(0), 2);
        Check.sheet(x, 0, 100, 7);
        Check.due("read above 99", x.read(0), 0);
        Check.due("WEIGHT 0", x.put(0, 0, 50), 0);
        Check.due("WEIGHT 1", x.put(1, 0, 50), 99);
        Check.due("WEIGHT 2", x.put(2, 0, 50), 50);
        Check.due("WEIGHT 3", x.put(3, 0, 50), 50);
        x.sheet(1, 0, 60);
        Check.due("read, ten at most", x.read(1), 10);
        Check.due("WEIGHT 9", x.put(9, 0, 50), 0);
        x.sheet(1, 1, 0);
        Check.due("read of no items", x.read(1), 0);
    }

    private static void promise9Set() {
        AgeFerry x = new AgeFerry();
        int[] least = {1, 0, 0, 0};
        int[] greatest = {4, 2, 99, 9};
        int[] first = {2, 0, 0, 0};
        for (int what = 0; what < 4; what++) {
            String call = "set(" + what + ", ..)";
            Check.due(call, x.set(what, least[what]), first[what]);
            Check.due(call, x.set(what, least[what] - 1), AgeFerry.BAD);
            Check.due(call, x.set(what, greatest[what]), least[what]);
            Check.due(call, x.set(what, greatest[what] + 1), AgeFerry.BAD);
            Check.due(call, x.set(what, least[what]), greatest[what]);
        }
        Check.due("set(4, 0)", x.set(4, 0), AgeFerry.BAD);
        Check.due("set(-1, 0)", x.set(-1, 0), AgeFerry.BAD);
    }

    private static void promise10Pair() {
        AgeFerry x = new AgeFerry();
        for (int kind = 0; kind < 2; kind++) {
            Check.due("pair(2, 9, 1)", x.pair(kind, 2, 9, 1), 0);
            Check.due("pair(9, 2, 1)", x.pair(kind, 9, 2, 1), 1);
            Check.due("pair(0, 1, 0)", x.pair(kind, 0, 1, 0), 0);
            Check.due("count of pairs", x.count(4 + kind), 1);
        }
        Check.due("pair(0, 9, 2, 0)", x.pair(0, 9, 2, 0), 1);
        Check.due("pair(0, 2, 9, 0)", x.pair(0, 2, 9, 0), 0);
        Check.due("count(4)", x.count(4), 0);
        Check.due("count(5)", x.count(5), 1);
        Check.due("pair(-1, ..)", x.pair(-1, 0, 1, 1), AgeFerry.BAD);
        Check.due("pair(2, ..)", x.pair(2, 0, 1, 1), AgeFerry.BAD);
        Check.due("pair(0, 3, 3, 1)", x.pair(0, 3, 3, 1), AgeFerry.BAD);
        Check.due("pair(0, 10, 3, 1)", x.pair(0, 10, 3, 1), AgeFerry.BAD);
        Check.due("pair(0, 3, -1, 1)", x.pair(0, 3, -1, 1), AgeFerry.BAD);
        Check.due("pair(0, 3, 4, 2)", x.pair(0, 3, 4, 2), AgeFerry.BAD);
        Check.due("pair(0, 3, 4, -1)", x.pair(0, 3, 4, -1), AgeFerry.BAD);
        Check.due("count(4) behind BAD", x.count(4), 0);
    }
}
