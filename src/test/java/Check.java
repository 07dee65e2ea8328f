/** What all tests share: answers that are due, and ferries to begin with. */
final class Check {
    private static final long LEAST_LONG = Long.MIN_VALUE;
    private static int asked = 0;
    private static int wrong = 0;

    private Check() {
    }

    static void due(String call, long got, long want) {
        asked++;
        if (got != want) {
            wrong++;
            System.out.println(call + " answered " + got + ", due is " + want);
        }
    }

    static void same(String place, String got, String want) {
        asked++;
        if (!got.equals(want)) {
            wrong++;
            System.out.println(place + got + ", due is: " + want);
        }
    }

    /** As the document tells a refusal where the answer is a long. */
    static long longRefusal(int x) {
        return LEAST_LONG + x;
    }

    static void type(AgeFerry ferry, String text) {
        for (char c : text.toCharArray()) {
            ferry.type(c);
        }
    }

    static AgeFerry ferry(String text) {
        AgeFerry ferry = new AgeFerry();
        type(ferry, text);
        return ferry;
    }

    static AgeFerry ferry(String text, int size, int alone) {
        AgeFerry ferry = ferry(text);
        ferry.set(0, size);
        ferry.set(2, alone);
        return ferry;
    }

    /** A SHEET of ints with these items. */
    static void sheet(AgeFerry ferry, int s, int... items) {
        ferry.sheet(s, 2, items.length);
        for (int i = 0; i < items.length; i++) {
            ferry.lay(s, 2, i, items[i]);
        }
    }

    static void dueItems(String call, AgeFerry ferry, int s, int form, int... items) {
        for (int i = 0; i < items.length; i++) {
            due(call + ", item " + i, ferry.get(s, form, i), items[i]);
        }
    }

    /** The digest, by asking for each thing apart. */
    static long digestOf(AgeFerry x) {
        long h = 17;
        for (int what = 0; what < 8; what++) {
            h = 31 * h + x.count(what);
        }
        h = 31 * h + x.fault();
        int number = x.count(0);
        for (int p = 0; p < number; p++) {
            long[] told = {x.person(p, 0), x.person(p, 1), x.with(p), x.pays(p, 0), x.pays(p, 1), x.share(p, 0),
                x.share(p, 1), x.lies(p, 3), x.ages(p, 0), x.ages(p, 1), x.ages(p, 2)};
            for (long one : told) {
                h = 31 * h + one;
            }
        }
        int all = (1 << number) - 1;
        long[] told = {x.day(all, 0), x.day(all, 1), x.day(all, 2), x.odd(), x.back(), x.lot(7)};
        for (long one : told) {
            h = 31 * h + one;
        }
        return h;
    }

    static void end(String test) {
        System.out.println(test + ": " + asked + " answers, " + wrong + " wrong");
        if (wrong != 0 || asked == 0) {
            System.exit(1);
        }
    }
}
