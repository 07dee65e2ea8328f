/** The bounds of promises 21 to 25: each method is for one sentence of the document. */
public final class BackEdgesTest {
    private static final int NONE = AgeFerry.NONE, BAD = AgeFerry.BAD, FULL = AgeFerry.FULL;
    private static final int LEAST = Integer.MIN_VALUE, GREATEST = Integer.MAX_VALUE;
    /** Each two of them are another number of years apart. */
    private static final String EIGHT = "0;1;3;7;15;31;63;120";
    private static final String TEN = "0;1;3;7;15;31;63;95;110;120";

    public static void main(String[] args) {
        backOfNobodyAndOfOne();
        backWithNobodyOfThere();
        backOfEightAtMost();
        backBySize();
        backOfThoseWhoMust();
        backOfThoseWhoWont();
        backOfThoseWhoWait();
        backOfNoDay();
        eightSeenAtMost();
        seenOfAnyNumbers();
        seenFaresFrom0To200();
        forgetHowMany();
        agesFrom0To120();
        agesByOwnLie();
        agesWithTold0AtLeast();
        agesByOthersAsTold();
        agesByOthersThatAreThere();
        agesByLaw0();
        agesOfTheTenth();
        agesByNone();
        lotOfNobodyAndOfOne();
        lotBySize();
        lotOfTen();
        lotWraps();
        lotWithPairsAside();
        lotWithWait();
        askingChangesNothing();
        Check.end("BackEdgesTest");
    }

    private static AgeFerry like(int many, int size, int alone) {
        return Check.ferry("5" + ";5".repeat(many - 1), size, alone);
    }

    // ---- promise 21: back

    private static void backOfNobodyAndOfOne() {
        AgeFerry x = new AgeFerry();
        x.set(2, 99);
        Check.due("back() of nobody", x.back(), 0);
        x.type('5');
        Check.due("back() of one", x.back(), 198);
        x.type(';');
        Check.due("back() with a FAULT", x.back(), 0);
    }

    /** "on which nobody goes with any one with whom one went there" */
    private static void backWithNobodyOfThere() {
        Check.due("back() of two", like(2, 4, 10).back(), 20);
        Check.due("back() of two, apart by 3", Check.ferry("5;8", 2, 10).back(), 23);
        Check.due("back() of two, apart by 20", Check.ferry("5;25", 2, 10).back(), 40);
        Check.due("back() of three", like(3, 4, 10).back(), 20);
        Check.due("back() of three for 1", like(3, 4, 1).back(), 2);
        Check.due("back() of four", like(4, 4, 10).back(), 0);
        // Three and two there: no three can go back in one boat, so one goes alone.
        Check.due("back() of five", like(5, 3, 10).back(), 10);
        Check.due("back() of five for 1", like(5, 3, 1).back(), 1);
        AgeFerry x = Check.ferry("10;11;20;22", 2, 99);
        Check.due("back(), 3 there and 21 back", x.back(), 24);
        x.set(0, 4);
        Check.due("back(), no three in one boat", x.back(), 24);
        x.set(2, 5);
        // There {0, 1}, {2, 3}; back {1, 2} for 9, and two alone.
        Check.due("back(), alone for 5", x.back(), 3 + 19);
    }

    /** "8 PEOPLE at most (FULL)" */
    private static void backOfEightAtMost() {
        AgeFerry x = like(7, 2, 9);
        Check.due("back() of seven", x.back(), 18);
        Check.type(x, ";5");
        Check.due("back() of eight", x.back(), 0);
        Check.type(x, ";5");
        Check.due("back() of nine", x.back(), FULL);
        Check.type(x, ";5");
        Check.due("back() of ten", x.back(), FULL);
        Check.type(x, ";");
        Check.due("back() of nobody", x.back(), 0);
    }

    private static void backBySize() {
        Check.due("back() of eight by SIZE 1", like(8, 1, 99).back(), 16 * 99);
        Check.due("back() of eight by SIZE 2", like(8, 2, 99).back(), 0);
        Check.due("back() of eight by SIZE 3", like(8, 3, 99).back(), 0);
        Check.due("back() of eight by SIZE 4", like(8, 4, 99).back(), 0);
        Check.due("back() of seven by SIZE 2", like(7, 2, 99).back(), 198);
        // {0, 1, 2}, {3, 4}, {5, 6} there; {0, 3, 5}, {1, 4}, {2, 6} back.
        Check.due("back() of seven by SIZE 3", like(7, 3, 99).back(), 0);
    }

    /** Who MUST go together go so on both DAYS: "NONE" */
    private static void backOfThoseWhoMust() {
        AgeFerry x = like(8, 4, 9);
        x.pair(1, 6, 7, 1);
        Check.due("back(), 6 and 7 MUST", x.back(), NONE);
        x.pair(1, 6, 7, 0);
        x.pair(1, 0, 1, 1);
        Check.due("back(), 0 and 1 MUST", x.back(), NONE);
        x.pair(1, 0, 1, 0);
        x.pair(1, 7, 8, 1);
        Check.due("back(), 7 MUST with one not there", x.back(), 0);
        x.pair(1, 8, 9, 1);
        Check.due("back(), two not there MUST", x.back(), 0);
        x.wipe();
        Check.type(x, "5");
        x.pair(1, 0, 1, 1);
        Check.due("back() of one who MUST with one not there", x.back(), 18);
    }

    private static void backOfThoseWhoWont() {
        AgeFerry x = like(4, 4, 9);
        x.pair(0, 0, 1, 1);
        // {0, 2}, {1, 3} there; {0, 3}, {1, 2} back.
        Check.due("back(), 0 and 1 WONT", x.back(), 0);
        x.pair(0, 0, 2, 1);
        Check.due("back(), 0 goes with 3 alone", x.back(), 18);
        x.pair(0, 0, 3, 1);
        Check.due("back(), 0 goes with nobody", x.back(), 18 + 18);
        AgeFerry two = like(2, 4, 9);
        two.pair(0, 0, 1, 1);
        Check.due("back() of two who WONT", two.back(), 36);
    }

    private static void backOfThoseWhoWait() {
        AgeFerry x = like(2, 2, 99);
        x.put(1, 1, 99);
        x.set(3, 9);
        Check.due("back(), 891 is more than 198", x.back(), 396);
        x.put(1, 1, 2);
        Check.due("back(), 18 is less than 198", x.back(), 18 + 198);
    }

    private static void backOfNoDay() {
        AgeFerry x = like(3, 2, 9);
        x.pair(1, 0, 1, 1);
        x.pair(1, 1, 2, 1);
        Check.due("back() when no DAY can be", x.back(), NONE);
        Check.due("back() of the stuck", Scenes.stuck().back(), NONE);
    }

    // ---- promises 22 and 23: what was SEEN

    /** "SEEN, 8 at most" */
    private static void eightSeenAtMost() {
        AgeFerry x = new AgeFerry();
        for (int many = 1; many <= 8; many++) {
            Check.due("seen, number " + many, x.seen(0, many, many), many);
            Check.due("count(6)", x.count(6), many);
        }
        Check.due("seen, number 9", x.seen(0, 9, 9), FULL);
        Check.due("seen, number 9, as number 1", x.seen(0, 1, 1), FULL);
        Check.due("seen, number 9, BAD", x.seen(0, 0, 9), BAD);
        Check.due("count(6) behind FULL", x.count(6), 8);
        Check.due("forget()", x.forget(), 8);
        Check.due("seen behind forget()", x.seen(0, 9, 9), 1);
        Check.type(x, "5;5");
        Check.due("ages(0, 0), number 1 is forgotten", x.ages(0, 0), 121);
    }

    /** "two (0 to 9)": there or not; the same two more than once. */
    private static void seenOfAnyNumbers() {
        AgeFerry x = new AgeFerry();
        Check.due("seen(0, 9, 1)", x.seen(0, 9, 1), 1);
        Check.due("seen(9, 0, 1)", x.seen(9, 0, 1), 2);
        Check.due("seen(0, 9, 1) again", x.seen(0, 9, 1), 3);
        Check.due("seen(0, 10, 1)", x.seen(0, 10, 1), BAD);
        Check.due("seen(10, 0, 1)", x.seen(10, 0, 1), BAD);
        Check.due("seen(-1, 0, 1)", x.seen(-1, 0, 1), BAD);
        Check.due("seen(0, -1, 1)", x.seen(0, -1, 1), BAD);
        for (int number = 0; number < 10; number++) {
            Check.due("seen of " + number + " with itself", x.seen(number, number, 1), BAD);
        }
        Check.due("count(6)", x.count(6), 3);
    }

    /** "a FARE (0 to 200)" */
    private static void seenFaresFrom0To200() {
        AgeFerry x = Check.ferry("5;60");
        Check.due("seen(0, 1, -1)", x.seen(0, 1, -1), BAD);
        Check.due("seen(0, 1, 201)", x.seen(0, 1, 201), BAD);
        Check.due("seen(0, 1, least)", x.seen(0, 1, LEAST), BAD);
        Check.due("seen(0, 1, greatest)", x.seen(0, 1, GREATEST), BAD);
        Check.due("count(6) behind BAD", x.count(6), 0);
        Check.due("seen(0, 1, 0)", x.seen(0, 1, 0), 1);
        dueAges(x, 0, 1, 60, 60);
        Check.due("forget()", x.forget(), 1);
        Check.due("seen(0, 1, 200)", x.seen(0, 1, 200), 1);
        dueAges(x, 0, 0, NONE, NONE);
    }

    private static void forgetHowMany() {
        AgeFerry x = new AgeFerry();
        Check.due("forget() of none", x.forget(), 0);
        for (int many = 1; many <= 8; many++) {
            for (int k = 0; k < many; k++) {
                x.seen(0, 1, k);
            }
            Check.due("forget() of " + many, x.forget(), many);
            Check.due("forget() again", x.forget(), 0);
            Check.due("count(6)", x.count(6), 0);
        }
    }

    // ---- promise 24: ages

    private static void dueAges(AgeFerry x, int person, int many, int least, int greatest) {
        Check.due("ages(" + person + ", 0)", x.ages(person, 0), many);
        Check.due("ages(" + person + ", 1)", x.ages(person, 1), least);
        Check.due("ages(" + person + ", 2)", x.ages(person, 2), greatest);
    }

    private static void dueAgesBy(int other, int fare, int many, int least, int greatest) {
        AgeFerry x = Check.ferry("50;" + other);
        x.seen(0, 1, fare);
        dueAges(x, 0, many, least, greatest);
    }

    /** "AGES of one of the PEOPLE (0 to 120)": "how many, the least, the greatest" */
    private static void agesFrom0To120() {
        dueAges(Check.ferry("50"), 0, 121, 0, 120);
        dueAgesBy(20, 20, 2, 0, 40);
        dueAgesBy(20, 21, 1, 41, 41);
        dueAgesBy(20, 19, 2, 1, 39);
        dueAgesBy(100, 20, 2, 80, 120);
        dueAgesBy(100, 21, 1, 79, 79);
        dueAgesBy(100, 19, 2, 81, 119);
        dueAgesBy(0, 0, 1, 0, 0);
        dueAgesBy(120, 0, 1, 120, 120);
        dueAgesBy(0, 120, 1, 120, 120);
        dueAgesBy(120, 120, 1, 0, 0);
        dueAgesBy(60, 60, 2, 0, 120);
        dueAgesBy(60, 61, 0, NONE, NONE);
        dueAgesBy(0, 121, 0, NONE, NONE);
    }

    /** "all LIES .. as told": one's own too. */
    private static void agesByOwnLie() {
        AgeFerry x = Check.ferry("50;120");
        x.seen(0, 1, 0);
        x.lie(0, 30);
        dueAges(x, 0, 1, 90, 90);
        x.lie(0, -1);
        dueAges(x, 0, 0, NONE, NONE);
        x.lie(1, 30);
        x.lie(0, 30);
        dueAges(x, 0, 1, 120, 120);
        x.lie(0, 29);
        dueAges(x, 0, 0, NONE, NONE);
    }

    /** "TOLD is AGE and LIE, 0 at least": all AGES up to the LIE tell 0. */
    private static void agesWithTold0AtLeast() {
        AgeFerry x = Check.ferry("50;7");
        x.lie(0, -30);
        x.seen(0, 1, 7);
        dueAges(x, 0, 32, 0, 44);
        x.lie(1, -7);
        x.forget();
        x.seen(0, 1, 0);
        dueAges(x, 0, 31, 0, 30);
        x.lie(0, -1);
        dueAges(x, 0, 2, 0, 1);
    }

    /** "all other AGES as told"; one's own AGE is not asked. */
    private static void agesByOthersAsTold() {
        AgeFerry x = Check.ferry("50;60;70");
        x.lie(1, 5);
        x.seen(1, 0, 10);
        dueAges(x, 0, 2, 55, 75);
        x.seen(0, 2, 5);
        dueAges(x, 0, 1, 75, 75);
        dueAges(x, 1, 2, 35, 55);
        dueAges(x, 2, 2, 45, 55);
        x.seen(1, 2, 99);
        dueAges(x, 0, 1, 75, 75);
        dueAges(x, 1, 0, NONE, NONE);
    }

    /** "with others that are there" */
    private static void agesByOthersThatAreThere() {
        AgeFerry x = Check.ferry("50;60");
        x.seen(0, 2, 1);
        x.seen(9, 0, 2);
        x.seen(2, 9, 3);
        dueAges(x, 0, 121, 0, 120);
        Check.type(x, ";8");
        dueAges(x, 0, 2, 7, 9);
        dueAges(x, 1, 121, 0, 120);
        dueAges(x, 2, 2, 49, 51);
        Check.type(x, ";");
        Check.due("ages(0, 0) with a FAULT", x.ages(0, 0), BAD);
        x.wipe();
        Check.type(x, "50");
        dueAges(x, 0, 121, 0, 120);
    }

    /** "paid a FARE .. by LAW 0", whichever LAW stands; so in one boat, and neither alone. */
    private static void agesByLaw0() {
        AgeFerry x = Check.ferry("50;60", 1, 99);
        x.put(0, 0, 99);
        x.set(3, 9);
        x.put(0, 1, 99);
        x.pair(0, 0, 1, 1);
        x.seen(0, 1, 10);
        for (int law = 0; law < 3; law++) {
            x.set(1, law);
            dueAges(x, 0, 2, 50, 70);
        }
    }

    private static void agesOfTheTenth() {
        AgeFerry x = Check.ferry(TEN);
        x.seen(0, 9, 110);
        x.seen(9, 8, 0);
        dueAges(x, 9, 1, 110, 110);
        dueAges(x, 8, 1, 120, 120);
        dueAges(x, 0, 1, 10, 10);
        dueAges(x, 7, 121, 0, 120);
        Check.due("ages(10, 0)", x.ages(10, 0), BAD);
        Check.due("ages(-1, 0)", x.ages(-1, 0), BAD);
        Check.due("ages(9, 3)", x.ages(9, 3), BAD);
        Check.due("ages(9, -1)", x.ages(9, -1), BAD);
    }

    /** "NONE (not how many)" */
    private static void agesByNone() {
        AgeFerry x = Check.ferry("50;60");
        x.seen(0, 1, 10);
        x.seen(0, 1, 11);
        Check.due("how many", x.ages(0, 0), 0);
        Check.due("the least", x.ages(0, 1), NONE);
        Check.due("the greatest", x.ages(0, 2), NONE);
    }

    // ---- promise 25: lot

    private static void lotOfNobodyAndOfOne() {
        for (int seed : new int[] {0, 1, -1, LEAST, GREATEST}) {
            AgeFerry x = new AgeFerry();
            x.set(2, 9);
            Check.due("lot(" + seed + ") of nobody", x.lot(seed), 0);
            x.type('5');
            Check.due("lot(" + seed + ") of one", x.lot(seed), 9);
            x.type(';');
            Check.due("lot(" + seed + ") with a FAULT", x.lot(seed), 0);
        }
    }

    private static void dueLot(String text, int size, int seed, int want) {
        Check.due("lot(" + seed + ") by SIZE " + size, Check.ferry(text, size, 50).lot(seed), want);
    }

    /** "places 0 to SIZE less 1 are boat 0, and so on" */
    private static void lotBySize() {
        // SEED 0 draws the places 0, 1, 2, 3, 6, 4, 7, 5.
        dueLot(EIGHT, 1, 0, 8 * 50);
        dueLot(EIGHT, 2, 0, 1 + 4 + 48 + 89);
        dueLot(EIGHT, 3, 0, 3 + 113 + 48);
        dueLot(EIGHT, 4, 0, 7 + 105);
        // SEED 7 draws the places 4, 7, 2, 6, 5, 1, 0, 3.
        dueLot(EIGHT, 2, 7, 15 + 6 + 117 + 32);
        dueLot(EIGHT, 3, 7, 120 + 6 + 60);
        dueLot(EIGHT, 4, 7, 15 + 117);
    }

    /** The last boat takes who is left: by SIZE 3 and ten places one alone. */
    private static void lotOfTen() {
        // SEED 0 draws the places 0, 3, 6, 8, 1, 2, 5, 4, 7, 9.
        dueLot(TEN, 1, 0, 500);
        dueLot(TEN, 2, 0, 15 + 30 + 107 + 113 + 32);
        dueLot(TEN, 3, 0, 31 + 94 + 107 + 50);
        dueLot(TEN, 4, 0, 31 + 107 + 113);
        dueLot(TEN, 2, 7, 393);
        dueLot(TEN, 3, 7, 371);
        dueLot(TEN, 4, 7, 262);
    }

    /** "as ints that wrap; its upper 16 bits as a number from 0 on" */
    private static void lotWraps() {
        // The least int draws the places 0, 7, 5, 3, 4, 2, 6, 1; the greatest 1, 0, 2, 6, 4, 7, 3, 5; -1: 1, 7, 5, 2, 3, 4, 0, 6.
        dueLot(EIGHT, 2, LEAST, 120 + 62 + 12 + 24);
        dueLot(EIGHT, 3, LEAST, 120 + 62 + 12);
        dueLot(EIGHT, 2, GREATEST, 1 + 60 + 24 + 105);
        dueLot(EIGHT, 3, GREATEST, 3 + 24 + 105);
        dueLot(EIGHT, 2, -1, 63 + 119 + 28 + 8);
        dueLot(EIGHT, 3, -1, 63 + 119 + 28);
        dueLot(EIGHT, 4, -1, 63 + 119);
        dueLot(EIGHT, 2, 65536, 98);
        dueLot(EIGHT, 2, -65536, 98);
        dueLot(EIGHT, 3, 12345, 190);
        dueLot(TEN, 4, LEAST, 321);
        dueLot(TEN, 4, GREATEST, 221);
        dueLot(TEN, 4, -1, 253);
    }

    /** "(WONT, MUST aside)" */
    private static void lotWithPairsAside() {
        AgeFerry x = Check.ferry(EIGHT, 2, 50);
        for (int number = 1; number < 8; number++) {
            x.pair(0, 0, number, 1);
            x.pair(1, 0, number, 1);
        }
        Check.due("no DAY of all", x.day(255, 0), NONE);
        Check.due("lot(0)", x.lot(0), 142);
    }

    /** "what all boats COST": with WAIT, by TOLD, by each LAW. */
    private static void lotWithWait() {
        AgeFerry x = Check.ferry(EIGHT, 4, 50);
        x.set(3, 2);
        x.put(0, 1, 3);
        x.put(7, 1, 1);
        Check.due("lot(0) with WAIT", x.lot(0), 112 + 2 * 9 + 2 * 3);
        x.lie(7, 30);
        Check.due("lot(0) with a LIE", x.lot(0), 112 + 30 + 18 + 6);
        x.set(1, 1);
        x.put(3, 0, 99);
        Check.due("lot(0) by LAW 1", x.lot(0), 49 + 18 + 6);
    }

    private static void askingChangesNothing() {
        Asked.unchanged("back() of stuck ones", Scenes::stuck, AgeFerry::back, NONE);
        Asked.unchanged("back() of those who MUST", Scenes::busy, AgeFerry::back, NONE);
        Asked.unchanged("ages(0, 0)", Scenes::busy, x -> x.ages(0, 0), 2);
        Asked.unchanged("ages(3, 2)", Scenes::busy, x -> x.ages(3, 2), 120);
        Asked.unchanged("lot(7) of nobody", Scenes::nobody, x -> x.lot(7), 0);
        Asked.unchanged("lot(7)", Scenes::busy, x -> x.lot(7), Scenes.busy().lot(7));
    }
}
