/** Promises 26 to 33: SHEETS, counts, the digest. */
public final class SheetsTest {
    private static final int LEAST = Integer.MIN_VALUE;

    public static void main(String[] args) {
        promise26Sheet();
        promise27Lose();
        promise28And29LayAndGet();
        promise29Get();
        promise30Copy();
        promise31Write();
        promise32Count();
        promise33Digest();
        findingsChangeNothingElse();
        Check.end("SheetsTest");
    }

    private static void promise26Sheet() {
        AgeFerry x = new AgeFerry();
        Check.due("sheet(0, 0, 60)", x.sheet(0, 0, 60), 60);
        Check.due("sheet(3, 2, 0)", x.sheet(3, 2, 0), 0);
        Check.due("sheet(4, 0, 1)", x.sheet(4, 0, 1), AgeFerry.BAD);
        Check.due("sheet(-1, 0, 1)", x.sheet(-1, 0, 1), AgeFerry.BAD);
        Check.due("sheet(0, 3, 1)", x.sheet(0, 3, 1), AgeFerry.BAD);
        Check.due("sheet(0, -1, 1)", x.sheet(0, -1, 1), AgeFerry.BAD);
        Check.due("sheet(0, 0, 61)", x.sheet(0, 0, 61), AgeFerry.BAD);
        Check.due("sheet(0, 3, -1)", x.sheet(0, 3, -1), AgeFerry.BAD);
        Check.due("count(8) behind BAD", x.count(8), 0);
        Check.due("sheet(0, 0, -1)", x.sheet(0, 0, -1), -15);
        Check.due("sheet(0, 0, least)", x.sheet(0, 0, LEAST), -15);
        Check.due("count(8) behind SIZE", x.count(8), 5);
        Check.due("items behind refusals", x.lose(0), 60);
        Check.sheet(x, 1, 7, 8, 9);
        Check.due("sheet over a sheet", x.sheet(1, 2, 5), 5);
        Check.dueItems("a new row", x, 1, 2, 0, 0, 0, 0, 0);
    }

    private static void promise27Lose() {
        AgeFerry x = new AgeFerry();
        x.sheet(2, 1, 17);
        Check.due("lose(2)", x.lose(2), 17);
        Check.due("lose(2) again", x.lose(2), -11);
        Check.due("count(8) behind NULL", x.count(8), 1);
        Check.due("lose(4)", x.lose(4), AgeFerry.BAD);
        Check.due("lose(-1)", x.lose(-1), AgeFerry.BAD);
        Check.due("get of a LOST one", x.get(2, 1, 0), LEAST);
        x.sheet(2, 1, 0);
        Check.due("lose of no items", x.lose(2), 0);
    }

    private static void promise28And29LayAndGet() {
        AgeFerry x = new AgeFerry();
        int[] values = {0, -1, 127, 128, 255, 256, -129, 32767, 32768, 65535, 65536, 1 << 30, LEAST, LEAST + 200};
        for (int form = 0; form < 3; form++) {
            x.sheet(form, form, values.length);
            for (int i = 0; i < values.length; i++) {
                int want = form == 0 ? (byte) values[i] : form == 1 ? (short) values[i] : values[i];
                String what = "(" + form + ", " + form + ", " + i + ")";
                Check.due("lay" + what, x.lay(form, form, i, values[i]), 1);
                Check.due("get" + what, x.get(form, form, i), want);
            }
        }
        Check.due("count(8) behind none", x.count(8), 0);
        Check.due("lay(-1, 0, 0, 0)", x.lay(-1, 0, 0, 0), AgeFerry.BAD);
        Check.due("lay(4, 0, 0, 0)", x.lay(4, 0, 0, 0), AgeFerry.BAD);
        Check.due("lay(0, -1, 0, 0)", x.lay(0, -1, 0, 0), AgeFerry.BAD);
        Check.due("lay(3, 3, 0, 0)", x.lay(3, 3, 0, 0), AgeFerry.BAD);
        Check.due("count(8) behind BAD", x.count(8), 0);
        Check.due("lay(3, 0, 99, 0), LOST", x.lay(3, 0, 99, 0), -11);
        Check.due("lay(0, 1, 99, 0), CAST", x.lay(0, 1, 99, 0), -13);
        Check.due("count(8) behind CAST", x.count(8), 3);
        Check.due("lay(0, 0, -1, 0), INDEX", x.lay(0, 0, -1, 0), -12);
        Check.due("lay(0, 0, 14, 0), INDEX", x.lay(0, 0, values.length, 0), -12);
        Check.due("count(8) behind INDEX", x.count(8), 2);
    }

    private static void promise29Get() {
        AgeFerry x = new AgeFerry();
        x.sheet(0, 1, 3);
        Check.due("get(4, 0, 0)", x.get(4, 0, 0), LEAST);
        Check.due("get(-1, 0, 0)", x.get(-1, 0, 0), LEAST);
        Check.due("get(0, 3, 0)", x.get(0, 3, 0), LEAST);
        Check.due("get(0, -1, 0)", x.get(0, -1, 0), LEAST);
        Check.due("count(8) behind BAD", x.count(8), 0);
        Check.due("get(1, 1, 9), NULL", x.get(1, 1, 9), LEAST);
        Check.due("count(8) behind NULL", x.count(8), 1);
        Check.due("get(0, 2, 9), CAST", x.get(0, 2, 9), LEAST);
        Check.due("count(8) behind CAST", x.count(8), 3);
        Check.due("get(0, 1, 3), INDEX", x.get(0, 1, 3), LEAST);
        Check.due("count(8) behind INDEX", x.count(8), 2);
        Check.due("get(0, 1, -1), INDEX", x.get(0, 1, -1), LEAST);
        Check.due("get(0, 1, 2)", x.get(0, 1, 2), 0);
        Check.due("count(8) stays", x.count(8), 2);
    }

    private static void promise30Copy() {
        AgeFerry x = new AgeFerry();
        Check.sheet(x, 0, 1, 2, 3, 4, 5);
        Check.sheet(x, 1, 11, 12, 13);
        Check.due("copy to another", x.copy(0, 3, 1, 0, 2), 1);
        Check.dueItems("copied", x, 1, 2, 4, 5, 13);
        Check.due("copy up within", x.copy(0, 0, 0, 1, 4), 1);
        Check.dueItems("copied up", x, 0, 2, 1, 1, 2, 3, 4);
        Check.due("copy down within", x.copy(0, 2, 0, 0, 3), 1);
        Check.dueItems("copied down", x, 0, 2, 2, 3, 4, 3, 4);
        Check.due("copy of nothing at the end", x.copy(0, 5, 1, 3, 0), 1);
        Check.due("copy of nothing behind the end", x.copy(0, 6, 1, 3, 0), -12);
        Check.due("copy of nothing, j behind the end", x.copy(0, 5, 1, 4, 0), -12);
        int[][] wrong = {{-1, 0, 1}, {0, -1, 1}, {0, 0, -1}, {4, 0, 2}, {0, 2, 2}, {0, 0, 4}, {1, 1, Integer.MAX_VALUE},
            {Integer.MAX_VALUE, 0, 1}, {LEAST, LEAST, LEAST}};
        for (int[] w : wrong) {
            Check.due("copy, INDEX", x.copy(0, w[0], 1, w[1], w[2]), -12);
        }
        Check.due("count(8) behind INDEX", x.count(8), 2);
        x.sheet(2, 1, 9);
        Check.due("copy, STORE ahead of INDEX", x.copy(0, -1, 2, 0, 1), -14);
        Check.due("count(8) behind STORE", x.count(8), 4);
        Check.due("copy from a LOST one", x.copy(3, 0, 0, 0, 1), -11);
        Check.due("copy to a LOST one", x.copy(0, 0, 3, 0, 1), -11);
        Check.due("copy(4, ..)", x.copy(4, 0, 0, 0, 1), AgeFerry.BAD);
        Check.due("copy(3, .., -1), BAD ahead of NULL", x.copy(3, 0, -1, 0, 1), AgeFerry.BAD);
        Check.dueItems("behind refusals", x, 0, 2, 2, 3, 4, 3, 4);
        Check.dueItems("behind refusals", x, 1, 2, 4, 5, 13);
    }

    private static void promise31Write() {
        AgeFerry x = Check.ferry("10;40;12;41;39", 2, 50);
        Check.due("write(-1)", x.write(-1), AgeFerry.BAD);
        Check.due("write(4)", x.write(4), AgeFerry.BAD);
        Check.due("write(0), LOST", x.write(0), -11);
        Check.due("count(8) behind NULL", x.count(8), 1);
        Check.sheet(x, 0, 9, 9, 9, 9, 9, 9, 9);
        Check.due("write(0), more items", x.write(0), 5);
        // {0,2}, then {1,3} and 4 alone, or {1,4} and 3 alone: bits 10 are less than 18.
        Check.dueItems("written", x, 0, 2, 0, 1, 0, 1, 2, 9, 9);
        x.sheet(1, 0, 3);
        Check.due("write(1), fewer items", x.write(1), 3);
        Check.dueItems("written", x, 1, 0, 0, 1, 0);
        x.sheet(1, 1, 0);
        Check.due("write(1), no items", x.write(1), 0);
        x.pair(0, 0, 1, 1);
        x.pair(1, 0, 1, 1);
        Check.due("write(0), NOT", x.write(0), AgeFerry.NOT);
        Check.due("write(2), NULL ahead of NOT", x.write(2), -11);
        x.wipe();
        Check.due("write(0), nobody", x.write(0), 0);
        Check.dueItems("not written", x, 0, 2, 0, 1, 0, 1, 2, 9, 9);
    }

    private static void promise32Count() {
        AgeFerry x = Check.ferry("10;020;31");
        x.lie(1, -4);
        x.lie(7, 2);
        x.pair(0, 0, 1, 1);
        x.pair(0, 8, 9, 1);
        x.pair(1, 5, 4, 1);
        x.seen(1, 2, 3);
        x.set(0, 4);
        x.lose(0);
        int[] want = {3, 9, 61, 1, 2, 1, 1, 4, 1};
        for (int what = 0; what < want.length; what++) {
            Check.due("count(" + what + ")", x.count(what), want[what]);
        }
        Check.due("count(9)", x.count(9), AgeFerry.BAD);
        Check.due("count(-1)", x.count(-1), AgeFerry.BAD);
        Check.type(x, "x");
        Check.due("count(0) with a FAULT", x.count(0), 0);
        Check.due("count(1) with a FAULT", x.count(1), 10);
        Check.due("count(2) with a FAULT", x.count(2), 0);
        Check.due("count(3) with a FAULT", x.count(3), 0);
    }

    private static void promise33Digest() {
        Check.due("digest() of a new one", new AgeFerry().digest(), Check.digestOf(new AgeFerry()));
        AgeFerry x = Check.ferry("10;20;31;7;8;90", 3, 17);
        x.lie(4, 20);
        x.seen(1, 2, 11);
        Check.due("digest()", x.digest(), Check.digestOf(x));
        long before = x.digest();
        x.sheet(0, 0, 3);
        x.lose(1);
        Check.due("digest() by other SHEETS and FINDINGS", x.digest(), before);
        Check.type(x, ";44;12;120");
        Check.due("digest() with FULL", x.digest(), Check.digestOf(x));
        x.pair(0, 1, 3, 1);
        x.pair(1, 3, 1, 1);
        Check.due("digest() with NONE", x.digest(), Check.digestOf(x));
        x.type('x');
        Check.due("digest() with a FAULT", x.digest(), Check.digestOf(x));
    }

    private static void findingsChangeNothingElse() {
        AgeFerry x = Check.ferry("10;20;31", 2, 17);
        Check.sheet(x, 0, 1, 2, 3);
        long before = x.digest();
        x.read(1);
        x.judged(1);
        x.costs(1);
        x.rather(1);
        x.write(1);
        x.lose(1);
        x.copy(0, 0, 1, 0, 1);
        x.copy(0, 3, 0, 0, 1);
        x.lay(0, 1, 0, 9);
        x.lay(0, 2, 3, 9);
        x.sheet(0, 2, -1);
        Check.due("digest() behind FINDINGS", x.digest(), before);
        Check.dueItems("SHEET behind FINDINGS", x, 0, 2, 1, 2, 3);
        Check.due("SHEET 1 behind FINDINGS", x.lose(1), -11);
    }
}
