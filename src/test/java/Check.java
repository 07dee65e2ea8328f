/** What all tests share: answers that are due, and ferries to begin with. */
final class Check {
    private static final long LEAST_LONG = Long.MIN_VALUE;
    private static int asked = 0;
    private static int wrong = 0;

    private Check() {
    }

    static void due(String call, long got, long want) {
        asked++;
        if (got != want) {
            wrong++;
            System.out.println(call + " answered " + got + ", due is " + want);
        }
    }

    /** As the document tells a refusal where the answer is a long. */
    static long longRefusal(int x) {
        return LEAST_LONG + x;
    }

    static void type(AgeFerry ferry, String text) {
        for (char c : text.toCharArray()) {
            ferry.type(c);
        }
    }

    static AgeFerry ferry(String text) {
        AgeFerry ferry = new AgeFerry();
        type(ferry, text);
        return ferry;
    }

    static AgeFerry ferry(String text, int size, int alone) {
        AgeFerry ferry = ferry(text);
        ferry.set(0, size);
        ferry.set(2, alone);
        return ferry;
    }

    /** A SHEET of ints with these items. */
    static void sheet(AgeFerry ferry, int s, int... items) {
        ferry.sheet(s, 2, items.length);
        for (int i = 0; i < items.length; i++) {
            ferry.lay(s, 2, i, items[i]);
        }
    }

    static void dueItems(String call, AgeFerry ferry, int s, int form, int... items) {
        for (int i = 0; i < items.length; i++) {
            due(call + ", item " + i, ferry.get(s, form, i), items[i]);
        }
    }

    static void end(String test) {
        System.out.println(test + ": " + asked + " answers, " + wrong + " wrong");
        if (wrong != 0 || asked == 0) {
            System.exit(1);
        }
    }
}
