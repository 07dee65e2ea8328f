import java.util.Arrays;

/** The bounds of promises 17 to 20: each method is for one sentence of the document. */
public final class SharesEdgesTest {
    private static final int NONE = AgeFerry.NONE, NOT = AgeFerry.NOT;
    private static final int LEAST = Integer.MIN_VALUE, GREATEST = Integer.MAX_VALUE;

    public static void main(String[] args) {
        paysByHowManyGo();
        paysInLowestTerms();
        paysNothing();
        paysForWaiting();
        paysOfTheTenth();
        paysOfNoDay();
        shareOfOne();
        shareOfTwo();
        shareBelow0();
        shareOf0();
        shareOfSixAtMost();
        shareOfThoseWhoMust();
        sharesMakeUpTheLeast();
        shareOfNoDay();
        ratherMoreThanTheLeast();
        ratherTheLeastSet();
        ratherOfTen();
        ratherIntsAsTheyAre();
        ratherOfEachForm();
        ratherOfFewerItems();
        ratherOfNobody();
        ratherOfNoDay();
        liesFromMinusLToL();
        liesNearestTo0();
        liesBelow0OfLikeOnes();
        liesByFractions();
        liesOfTheLastOne();
        liesWithTold0AtLeast();
        liesWithTheOthersAsTold();
        liesOfTheTenth();
        liesOfNoDay();
        askingChangesNothing();
        Check.end("SharesEdgesTest");
    }

    /** All of them MUST go in one boat. */
    private static AgeFerry together(String text, int many) {
        AgeFerry x = Check.ferry(text, 4, 99);
        for (int number = 1; number < many; number++) {
            x.pair(1, 0, number, 1);
        }
        return x;
    }

    private static AgeFerry noDay(String text) {
        AgeFerry x = Check.ferry(text, 4, 9);
        x.pair(0, 0, 1, 1);
        x.pair(1, 0, 1, 1);
        return x;
    }

    // ---- promise 17: pays

    private static void duePays(AgeFerry x, int person, long above, long below) {
        Check.due("pays(" + person + ", 0)", x.pays(person, 0), above);
        Check.due("pays(" + person + ", 1)", x.pays(person, 1), below);
    }

    /** "what the boat of one COSTS .., by how many go in it" */
    private static void paysByHowManyGo() {
        duePays(Check.ferry("10", 4, 7), 0, 7, 1);
        duePays(Check.ferry("10", 4, 99), 0, 99, 1);
        duePays(together("10;17", 2), 1, 7, 2);
        duePays(together("10;17;12", 3), 2, 7, 3);
        duePays(together("10;17;12;13", 4), 3, 7, 4);
        AgeFerry x = Check.ferry("10;17;60", 2, 20);
        duePays(x, 0, 7, 2);
        duePays(x, 1, 7, 2);
        duePays(x, 2, 20, 1);
    }

    /** "FRACTIONS are told in lowest terms" */
    private static void paysInLowestTerms() {
        int[][] due = {{0, 1}, {1, 4}, {1, 2}, {3, 4}, {1, 1}, {5, 4}, {3, 2}, {7, 4}, {2, 1}, {9, 4}, {5, 2}, {11, 4}, {3, 1}};
        for (int cost = 0; cost <= 12; cost++) {
            duePays(together("5;" + (5 + cost) + ";5;5", 4), 0, due[cost][0], due[cost][1]);
        }
        int[][] byThree = {{0, 1}, {1, 3}, {2, 3}, {1, 1}, {4, 3}, {5, 3}, {2, 1}};
        for (int cost = 0; cost <= 6; cost++) {
            duePays(together("5;" + (5 + cost) + ";5", 3), 2, byThree[cost][0], byThree[cost][1]);
        }
        duePays(together("5;10", 2), 0, 5, 2);
        duePays(together("5;11", 2), 0, 3, 1);
    }

    /** "(0 by 1)" */
    private static void paysNothing() {
        duePays(Check.ferry("10", 1, 0), 0, 0, 1);
        duePays(together("5;5", 2), 0, 0, 1);
        duePays(together("5;5;5", 3), 1, 0, 1);
        duePays(together("5;5;5;5", 4), 2, 0, 1);
    }

    private static void paysForWaiting() {
        AgeFerry x = together("5;8;5;5", 4);
        x.put(3, 1, 2);
        x.set(3, 1);
        duePays(x, 0, 9, 4);
        duePays(x, 3, 9, 4);
    }

    private static void paysOfTheTenth() {
        AgeFerry x = Check.ferry("5;5;5;5;5;5;5;5;5;9", 4, 99);
        x.pair(1, 0, 9, 1);
        duePays(x, 9, 2, 1);
        duePays(x, 0, 2, 1);
        duePays(x, 5, 0, 1);
        Check.due("pays(10, 0)", x.pays(10, 0), Check.longRefusal(2));
        Check.due("pays(-1, 0)", x.pays(-1, 0), Check.longRefusal(2));
    }

    /** Of those too who could go by themselves. */
    private static void paysOfNoDay() {
        AgeFerry x = noDay("5;6;7");
        for (int person = 0; person < 3; person++) {
            duePays(x, person, Check.longRefusal(3), Check.longRefusal(3));
        }
    }

    // ---- promise 18: share

    private static void dueShare(AgeFerry x, int person, long above, long below) {
        Check.due("share(" + person + ", 0)", x.share(person, 0), above);
        Check.due("share(" + person + ", 1)", x.share(person, 1), below);
    }

    private static void shareOfOne() {
        dueShare(Check.ferry("10", 2, 20), 0, 20, 1);
        dueShare(Check.ferry("10", 2, 0), 0, 0, 1);
    }

    /** "the LEAST of those ahead and this one, less the LEAST of those ahead": 20 and 15 - 20, or 20 and 15 - 20. */
    private static void shareOfTwo() {
        AgeFerry x = Check.ferry("10;25", 2, 20);
        dueShare(x, 0, 15, 2);
        dueShare(x, 1, 15, 2);
        x.set(0, 1);
        dueShare(x, 1, 20, 1);
    }

    /** "a FRACTION (perhaps below 0)": below it stands a number above 0. */
    private static void shareBelow0() {
        AgeFerry x = Check.ferry("5;5;5", 2, 50);
        x.pair(0, 0, 1, 1);
        // 2 brings 50 when first, -50 when second, -50 when last: of six orders two each.
        dueShare(x, 2, -50, 3);
        dueShare(x, 0, 100, 3);
        dueShare(x, 1, 100, 3);
        for (int alone = 0; alone <= 99; alone++) {
            x.set(2, alone);
            boolean whole = alone % 3 == 0;
            dueShare(x, 2, whole ? -alone / 3 : -alone, whole ? 1 : 3);
        }
        dueShare(x, 0, 66, 1);
    }

    private static void shareOf0() {
        AgeFerry x = Check.ferry("5;5", 2, 30);
        dueShare(x, 0, 0, 1);
        AgeFerry y = Check.ferry("5;90", 2, 0);
        dueShare(y, 1, 0, 1);
    }

    /** "6 PEOPLE at most (FULL)": five are like, and the last one goes alone. */
    private static void shareOfSixAtMost() {
        AgeFerry x = Check.ferry("5;5;5;5;5;5", 2, 12);
        for (int number = 0; number < 5; number++) {
            x.pair(0, number, 5, 1);
        }
        for (int person = 0; person < 5; person++) {
            dueShare(x, person, 12, 5);
        }
        dueShare(x, 5, 12, 1);
        Check.type(x, ";5");
        dueShare(x, 0, Check.longRefusal(4), Check.longRefusal(4));
        dueShare(x, 6, Check.longRefusal(4), Check.longRefusal(4));
        AgeFerry six = Check.ferry("5;5;5;5;5;5", 1, 7);
        dueShare(six, 5, 7, 1);
    }

    /** Those who MUST go together go each alone, as long as the other has not come. */
    private static void shareOfThoseWhoMust() {
        AgeFerry x = Check.ferry("10;40", 2, 5);
        x.pair(1, 0, 1, 1);
        dueShare(x, 0, 15, 1);
        dueShare(x, 1, 15, 1);
        AgeFerry y = Check.ferry("10;40", 2, 5);
        y.pair(1, 0, 2, 1);
        dueShare(y, 0, 5, 1);
    }

    /** "on the mean over all orders": in each order all bring the LEAST of all. */
    private static void sharesMakeUpTheLeast() {
        String text = "7;90;13;40;66;21";
        for (int many = 1; many <= 6; many++) {
            AgeFerry x = Check.ferry(text.split(";")[0], 3, 25);
            for (int person = 1; person < many; person++) {
                Check.type(x, ";" + text.split(";")[person]);
            }
            x.pair(0, 0, 2, 1);
            x.pair(1, 1, 4, 1);
            long together = 0;
            for (int person = 0; person < many; person++) {
                together += x.share(person, 0) * (720 / x.share(person, 1));
            }
            Check.due("all SHARES of " + many, together, 720L * x.day((1 << many) - 1, 0));
        }
    }

    /** "NOT (all three): some LEAST cannot be." */
    private static void shareOfNoDay() {
        AgeFerry x = noDay("5;6;7");
        for (int person = 0; person < 3; person++) {
            dueShare(x, person, Check.longRefusal(3), Check.longRefusal(3));
        }
        AgeFerry y = Check.ferry("5;6;7", 2, 9);
        y.pair(1, 0, 1, 1);
        y.pair(1, 1, 2, 1);
        dueShare(y, 0, Check.longRefusal(3), Check.longRefusal(3));
        y.set(0, 3);
        // 0 brings 9 when first, 1 - 9 behind 1 alone, 2 - 9 behind 2 alone, 2 - 1 when last.
        dueShare(y, 0, 2 * 9 + (1 - 9) + (2 - 9) + 2 * (2 - 1), 6);
    }

    // ---- promise 19: rather

    private static void dueRather(AgeFerry x, int want, int... items) {
        Check.sheet(x, 0, items);
        Check.due("rather(0) of " + Arrays.toString(items), x.rather(0), want);
    }

    /** "that pays more, together, than its LEAST": as much is not more. */
    private static void ratherMoreThanTheLeast() {
        AgeFerry x = Check.ferry("10;25", 2, 20);
        dueRather(x, NONE, 7, 8);
        dueRather(x, 3, 8, 8);
        dueRather(x, NONE, 20, -5);
        dueRather(x, 1, 21, -6);
        dueRather(x, NONE, -5, 20);
        dueRather(x, 2, -6, 21);
        dueRather(x, NONE, 0, 0);
        x.set(2, 0);
        dueRather(x, NONE, 0, 0);
        dueRather(x, 1, 1, 0);
        dueRather(x, 2, 0, 1);
    }

    /** "the least set as bits": not the smallest one. */
    private static void ratherTheLeastSet() {
        AgeFerry x = Check.ferry("10;25;60", 2, 20);
        dueRather(x, 3, 8, 8, 21);
        dueRather(x, 4, 7, 8, 21);
        dueRather(x, 2, 20, 21, 21);
        dueRather(x, 1, 21, 21, 21);
        dueRather(x, 3, 0, 16, 20);
        dueRather(x, NONE, 0, 15, 20);
        dueRather(x, 6, -1, 16, 20);
        AgeFerry y = Check.ferry("10;90;12", 2, 20);
        dueRather(y, 5, 2, 20, 1);
        dueRather(y, NONE, 1, 20, 1);
    }

    private static void ratherOfTen() {
        AgeFerry x = Check.ferry("5;5;5;5;5;5;5;5;5;5", 1, 9);
        dueRather(x, NONE, 9, 9, 9, 9, 9, 9, 9, 9, 9, 9);
        dueRather(x, 512, 9, 9, 9, 9, 9, 9, 9, 9, 9, 10);
        dueRather(x, 1, 10, 9, 9, 9, 9, 9, 9, 9, 9, 10);
        x.set(0, 4);
        x.set(2, 0);
        dueRather(x, 512, 0, 0, 0, 0, 0, 0, 0, 0, 0, 1);
        dueRather(x, NONE, 0, 0, 0, 0, 0, 0, 0, 0, 0, 0, 1);
    }

    /** "ints as they are": no sum of them wraps. */
    private static void ratherIntsAsTheyAre() {
        AgeFerry x = Check.ferry("10;25;60", 2, 20);
        dueRather(x, 1, GREATEST, GREATEST, GREATEST);
        dueRather(x, 4, LEAST, LEAST, GREATEST);
        dueRather(x, NONE, LEAST, LEAST, LEAST);
        dueRather(x, NONE, LEAST, LEAST + 60, 0);
        dueRather(x, NONE, LEAST, LEAST + 60, LEAST + 90);
        dueRather(x, 2, LEAST, GREATEST, LEAST);
        dueRather(x, 6, LEAST, 20, 16);
        dueRather(x, NONE, LEAST, 20, 15);
        dueRather(x, 2, -GREATEST, 21, 0);
    }

    /** An item has the sign of its FORM. */
    private static void ratherOfEachForm() {
        AgeFerry x = Check.ferry("10;25", 2, 20);
        for (int form = 0; form < 3; form++) {
            x.sheet(0, form, 2);
            x.lay(0, form, 0, 8);
            x.lay(0, form, 1, 8);
            Check.due("rather(0) by FORM " + form, x.rather(0), 3);
            x.lay(0, form, 1, 7);
            Check.due("rather(0) by FORM " + form + ", as much", x.rather(0), NONE);
            x.lay(0, form, 0, form == 0 ? 200 : form == 1 ? 40000 : -9);
            Check.due("rather(0) by FORM " + form + ", below 0", x.rather(0), NONE);
            x.lay(0, form, 0, form == 0 ? 127 : form == 1 ? 32767 : GREATEST);
            Check.due("rather(0) by FORM " + form + ", greatest", x.rather(0), 1);
        }
    }

    /** "NOT: it has fewer items"; more items are not asked. */
    private static void ratherOfFewerItems() {
        for (int many = 0; many <= 10; many++) {
            AgeFerry x = Check.ferry("5;5;5;5;5;5;5;5;5;5".substring(0, Math.max(0, 2 * many - 1)), 1, 9);
            for (int length = 0; length <= 11; length++) {
                x.sheet(1, 0, length);
                Check.due("rather(1) of " + length + " by " + many, x.rather(1), length < many ? NOT : NONE);
            }
        }
        AgeFerry x = Check.ferry("10;25", 2, 20);
        dueRather(x, NONE, 7, 8, 99);
        dueRather(x, NOT, 99);
        dueRather(x, NOT);
    }

    private static void ratherOfNobody() {
        AgeFerry x = new AgeFerry();
        dueRather(x, NONE);
        dueRather(x, NONE, GREATEST);
        dueRather(Check.ferry("5;"), NONE, GREATEST);
    }

    private static void ratherOfNoDay() {
        AgeFerry x = noDay("5;6;7");
        dueRather(x, NOT, 0, 0, 0);
        dueRather(x, NOT, 99, 99, 99);
        dueRather(x, NOT, 0, 0);
        x.pair(0, 0, 1, 0);
        dueRather(x, NONE, 0, 0, 0);
    }

    // ---- promise 20: lies

    private static void dueLies(AgeFerry x, int person, int most, int want) {
        Check.due("lies(" + person + ", " + most + ")", x.lies(person, most), want);
    }

    /** "of all LIES of one from -L to L (L 0 to 30)" */
    private static void liesFromMinusLToL() {
        AgeFerry x = Check.ferry("10;80", 2, 99);
        for (int most = 0; most <= 30; most++) {
            dueLies(x, 0, most, most);
            dueLies(x, 1, most, -most);
        }
        dueLies(x, 0, 31, -1002);
        dueLies(x, 0, -1, -1002);
        x.lie(0, 7);
        dueLies(x, 0, 0, 0);
        dueLies(x, 0, 3, 3);
        dueLies(x, 0, 30, 30);
        Check.due("the LIE stays", x.lie(0, 0), 7);
    }

    /** "of like ones the one nearest to 0" */
    private static void liesNearestTo0() {
        dueLies(Check.ferry("10;20", 2, 0), 0, 30, 0);
        dueLies(Check.ferry("10", 2, 9), 0, 30, 0);
        AgeFerry x = together("10;15;20", 3);
        dueLies(x, 1, 30, 0);
        dueLies(x, 0, 30, 5);
        dueLies(x, 0, 6, 5);
        dueLies(x, 0, 4, 4);
        dueLies(x, 2, 30, -5);
        dueLies(x, 2, 4, -4);
        x.lie(1, 9);
        dueLies(x, 0, 30, 10);
        x.lie(0, -20);
        dueLies(x, 0, 30, 10);
        x.lie(0, 12);
        dueLies(x, 0, 30, 10);
        Check.due("the LIE stays, though it is like", x.lie(0, 5), 12);
        x.set(2, 0);
        dueLies(x, 0, 30, 10);
        AgeFerry alone = Check.ferry("10;20", 2, 0);
        alone.lie(0, 5);
        dueLies(alone, 0, 30, 0);
    }

    /** "of like ones the one below 0" */
    private static void liesBelow0OfLikeOnes() {
        AgeFerry x = Check.ferry("40;37;43", 2, 99);
        dueLies(x, 0, 0, 0);
        dueLies(x, 0, 1, -1);
        dueLies(x, 0, 2, -2);
        dueLies(x, 0, 3, -3);
        dueLies(x, 0, 30, -3);
        x.lie(1, -27);
        x.lie(2, 27);
        dueLies(x, 0, 29, -29);
        dueLies(x, 0, 30, -30);
    }

    /** PAYS is a FRACTION: 3 by three at -2 is like 2 by two at 1, and 3 by two is more. */
    private static void liesByFractions() {
        AgeFerry x = Check.ferry("10;11;5;8", 3, 3);
        x.set(1, 2);
        x.put(1, 0, 52);
        x.pair(0, 1, 2, 1);
        x.pair(0, 1, 3, 1);
        x.pair(1, 2, 3, 1);
        int[][] due = {{-2, 1, 1}, {-1, 2, 1}, {0, 3, 2}, {1, 1, 1}, {2, 3, 2}};
        for (int[] d : due) {
            x.lie(0, d[0]);
            duePays(x, 0, d[1], d[2]);
        }
        dueLies(x, 0, 0, 0);
        dueLies(x, 0, 1, 1);
        dueLies(x, 0, 2, 1);
        dueLies(x, 0, 30, 1);
        x.put(1, 0, 53);
        // Now 4 by three at -1, 4 by two at 0, 3 by two at 1.
        dueLies(x, 0, 1, -1);
        dueLies(x, 0, 2, -2);
    }

    /** As liesByFractions(), with all numbers the other way round: who goes with 3 is another one by each LIE. */
    private static void liesOfTheLastOne() {
        AgeFerry x = Check.ferry("8;5;11;10", 3, 3);
        x.set(1, 2);
        x.put(2, 0, 52);
        x.pair(0, 2, 1, 1);
        x.pair(0, 2, 0, 1);
        x.pair(1, 1, 0, 1);
        dueLies(x, 3, 0, 0);
        dueLies(x, 3, 1, 1);
        dueLies(x, 3, 2, 1);
        dueLies(x, 3, 30, 1);
        Check.due("with(3) as before", x.with(3), 12);
        x.put(2, 0, 53);
        dueLies(x, 3, 1, -1);
        dueLies(x, 3, 2, -2);
        dueLies(x, 2, 0, 0);
        Check.due("with(3) as before", x.with(3), 12);
        x.lie(3, -2);
        Check.due("with(3) by a LIE", x.with(3), 11);
        dueLies(x, 3, 2, -2);
        Check.due("with(3) by that LIE still", x.with(3), 11);
    }

    /** "TOLD is AGE and LIE, 0 at least" */
    private static void liesWithTold0AtLeast() {
        AgeFerry x = Check.ferry("5;0", 2, 99);
        dueLies(x, 0, 30, -5);
        dueLies(x, 0, 5, -5);
        dueLies(x, 0, 4, -4);
        dueLies(x, 1, 30, 5);
        AgeFerry y = Check.ferry("120;120", 2, 99);
        y.lie(1, 30);
        dueLies(y, 0, 30, 30);
    }

    private static void liesWithTheOthersAsTold() {
        AgeFerry x = Check.ferry("20;20;90", 2, 50);
        x.lie(1, 6);
        dueLies(x, 0, 30, 6);
        x.lie(1, -6);
        dueLies(x, 0, 30, -6);
        dueLies(x, 1, 30, 0);
        x.lie(0, 2);
        dueLies(x, 1, 30, 2);
        Check.due("LIE of 0 stays", x.lie(0, 0), 2);
        Check.due("LIE of 1 stays", x.lie(1, 0), -6);
        Check.due("LIE of 2 stays", x.lie(2, 0), 0);
    }

    private static void liesOfTheTenth() {
        AgeFerry x = Check.ferry("5;5;5;5;5;5;5;5;5;9", 2, 99);
        dueLies(x, 9, 30, -4);
        dueLies(x, 9, 3, -3);
        dueLies(x, 8, 30, 4);
        dueLies(x, 0, 30, 0);
        dueLies(x, 10, 30, -1002);
        dueLies(x, -1, 30, -1002);
    }

    /** "NOT: it cannot be (by some of these)": for any L. */
    private static void liesOfNoDay() {
        AgeFerry x = noDay("5;6;7");
        for (int person = 0; person < 3; person++) {
            dueLies(x, person, 0, -1003);
            dueLies(x, person, 30, -1003);
            dueLies(x, person, 31, -1002);
        }
        x.pair(1, 0, 1, 0);
        dueLies(x, 0, 0, 0);
    }

    private static void askingChangesNothing() {
        for (int person = 0; person < 4; person++) {
            int one = person;
            AgeFerry asked = Scenes.busy();
            int lie = asked.lies(person, 30);
            Asked.unchanged("lies(" + person + ", 30)", Scenes::busy, x -> x.lies(one, 30), lie);
            Asked.unchanged("pays(" + person + ", 0)", Scenes::busy, x -> x.pays(one, 0), asked.pays(person, 0));
            Asked.unchanged("share(" + person + ", 0)", Scenes::busy, x -> x.share(one, 0), asked.share(person, 0));
        }
        Asked.unchanged("rather(2)", Scenes::busy, x -> x.rather(2), 1);
        Asked.unchanged("rather(0)", Scenes::busy, x -> x.rather(0), NONE);
    }
}
