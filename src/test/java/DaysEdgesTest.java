import java.util.Arrays;

/** The bounds of promises 11 to 16: each method is for one sentence of the document. */
public final class DaysEdgesTest {
    private static final int NONE = AgeFerry.NONE, BAD = AgeFerry.BAD, NOT = AgeFerry.NOT;

    public static void main(String[] args) {
        aloneIsTheFareOfOne();
        theFareByEachLaw();
        theGreatestFares();
        waitForEachHour();
        theLongestWait();
        aBoatOfAllThere();
        aBoatIsNotJudged();
        aDayOfNobody();
        sizeAtMost();
        sizeAtMostOfTheMost();
        ofAllTen();
        mustWhereBothGo();
        wontGoInOneBoat();
        theDearestDay();
        theLeastAheadOfTheFewestBoats();
        withTheFewestBoats();
        withTheLeastBits();
        thenOfThoseLeft();
        withTheFirstAndTheLast();
        withWhenItCannotBe();
        everyChangeIsSeen();
        oddOfNobodyAndOfOne();
        oddOfLikeOnes();
        oddOfTen();
        oddWhenItCannotBe();
        itemsAreNumbersOfBoats();
        itemsOfEachForm();
        fewerItemsThanPeople();
        judgedBySize();
        judgedByWont();
        judgedByMust();
        judgedOfNobody();
        costsOfEveryBoat();
        costsOfNobody();
        costsOfAJudgedOne();
        askingChangesNothing();
        Check.end("DaysEdgesTest");
    }

    /** So many PEOPLE of the AGE 5, by a SIZE and ALONE. */
    private static AgeFerry like(int many, int size, int alone) {
        return Check.ferry(many == 0 ? "" : "5" + ";5".repeat(many - 1), size, alone);
    }

    /** Of ten PEOPLE two fours and a pair who MUST go together and pay and wait as much as can be: 2922 twice, 1140. */
    private static AgeFerry dearest() {
        AgeFerry x = Check.ferry("0;0;0;120;0;0;0;120;0;120", 4, 99);
        x.set(1, 2);
        x.set(3, 9);
        for (int number = 0; number < 10; number++) {
            boolean last = number == 3 || number == 7 || number == 9;
            x.put(number, 0, last ? 99 : 0);
            x.put(number, 1, last ? 99 : 0);
            x.lie(number, last ? 30 : 0);
            if (!last) {
                x.pair(1, number, number + 1, 1);
            }
        }
        return x;
    }

    // ---- promise 11: boat

    /** "ALONE (0 to 99; 0 at first) is the FARE of a boat with one alone." */
    private static void aloneIsTheFareOfOne() {
        AgeFerry x = Check.ferry("10;20;30");
        x.put(0, 0, 99);
        x.put(2, 1, 99);
        x.set(3, 9);
        for (int law = 0; law < 3; law++) {
            x.set(1, law);
            for (int alone : new int[] {0, 1, 99}) {
                x.set(2, alone);
                for (int bit = 1; bit <= 4; bit *= 2) {
                    Check.due("FARE of " + bit + " by LAW " + law, x.boat(bit, 1), alone);
                    Check.due("boat of " + bit + " by LAW " + law, x.boat(bit, 0), alone);
                }
                Check.due("FARE of two by LAW " + law, x.boat(3, 1), new int[] {10, 49, 59}[law]);
            }
        }
    }

    /** "LAW (0 to 2 ..): .. 0 the greatest TOLD less the least, 1 the greatest WEIGHT less the least, 2 both together" */
    private static void theFareByEachLaw() {
        AgeFerry x = Check.ferry("30;10;20;10");
        x.put(0, 0, 40);
        x.put(2, 0, 45);
        x.lie(1, -3);
        int[][] fares = {{3, 23, 10, 33}, {5, 10, 5, 15}, {7, 23, 10, 33}, {10, 3, 0, 3}, {15, 23, 10, 33}, {12, 10, 5, 15}};
        for (int[] boat : fares) {
            for (int law = 0; law < 3; law++) {
                x.set(1, law);
                Check.due("FARE of " + boat[0] + " by LAW " + law, x.boat(boat[0], 1), boat[law + 1]);
            }
        }
    }

    /** TOLD up to 150, WEIGHTS up to 99; and the least FARE of two. */
    private static void theGreatestFares() {
        AgeFerry x = Check.ferry("0;120;120");
        x.lie(0, -30);
        x.lie(1, 30);
        x.put(0, 0, 99);
        x.put(1, 0, 0);
        x.put(2, 0, 0);
        int[] greatest = {150, 99, 249};
        for (int law = 0; law < 3; law++) {
            x.set(1, law);
            Check.due("greatest FARE by LAW " + law, x.boat(3, 1), greatest[law]);
        }
        x.lie(2, 30);
        for (int law = 0; law < 3; law++) {
            x.set(1, law);
            Check.due("least FARE by LAW " + law, x.boat(6, 1), 0);
        }
    }

    /** "WAIT (0 to 9 ..): .. it COSTS its FARE, and WAIT for each HOUR that each of it has waited by then." */
    private static void waitForEachHour() {
        AgeFerry x = Check.ferry("10;20;30");
        x.put(0, 1, 3);
        x.put(1, 1, 9);
        x.put(2, 1, 5);
        for (int wait = 0; wait <= 9; wait++) {
            x.set(3, wait);
            Check.due("boat(7, 0) by WAIT " + wait, x.boat(7, 0), 20 + wait * (6 + 4));
            Check.due("boat(5, 0) by WAIT " + wait, x.boat(5, 0), 20 + wait * 2);
            Check.due("boat(7, 1) by WAIT " + wait, x.boat(7, 1), 20);
        }
        x.put(0, 1, 9);
        x.put(2, 1, 9);
        Check.due("boat(7, 0), all at one HOUR", x.boat(7, 0), 20);
    }

    /** "a boat goes when the last of it COMES": from HOUR 0 to HOUR 99. */
    private static void theLongestWait() {
        AgeFerry x = like(10, 2, 0);
        x.put(9, 1, 99);
        x.set(3, 9);
        Check.due("boat(513, 0)", x.boat(513, 0), 9 * 99);
        Check.due("boat(1023, 0)", x.boat(1023, 0), 9 * 9 * 99);
        Check.due("boat(511, 0)", x.boat(511, 0), 0);
        Check.due("boat(512, 0)", x.boat(512, 0), 0);
        for (int number = 0; number < 9; number++) {
            x.put(number, 1, 99);
        }
        Check.due("boat(1023, 0), all late", x.boat(1023, 0), 0);
    }

    /** Bits from 0 to 9. */
    private static void aBoatOfAllThere() {
        AgeFerry x = Check.ferry("0;1;2;3;4;5;6;7;8;120");
        Check.due("boat(1023, 1)", x.boat(1023, 1), 120);
        Check.due("boat(511, 1)", x.boat(511, 1), 8);
        Check.due("boat(1022, 1)", x.boat(1022, 1), 119);
        Check.due("boat(513, 1)", x.boat(513, 1), 120);
        Check.due("boat(1024, 1)", x.boat(1024, 1), BAD);
        Check.due("boat(2047, 1)", x.boat(2047, 1), BAD);
        Check.due("boat(0, 1)", x.boat(0, 1), BAD);
    }

    /** "with just these": SIZE, WONT, MUST are of a DAY. */
    private static void aBoatIsNotJudged() {
        AgeFerry x = Check.ferry("10;20;31;40;50", 1, 7);
        x.pair(0, 0, 1, 1);
        x.pair(1, 1, 4, 1);
        Check.due("boat(3, 0)", x.boat(3, 0), 10);
        Check.due("boat(15, 0)", x.boat(15, 0), 30);
        Check.due("boat(31, 0)", x.boat(31, 0), 40);
        Check.due("boat(2, 0)", x.boat(2, 0), 7);
    }

    // ---- promise 12: day

    private static void dueDay(String what, AgeFerry x, int people, int least, int boats, int most) {
        Check.due("LEAST of " + people + ", " + what, x.day(people, 0), least);
        Check.due("boats of " + people + ", " + what, x.day(people, 1), boats);
        Check.due("MOST of " + people + ", " + what, x.day(people, 2), most);
    }

    private static void aDayOfNobody() {
        dueDay("nobody there", new AgeFerry(), 0, 0, 0, 0);
        dueDay("four there", Check.ferry("5;6;7;8", 2, 99), 0, 0, 0, 0);
        dueDay("all cannot go", Scenes.stuck(), 0, 0, 0, 0);
        dueDay("with a FAULT", Scenes.faulty(), 0, 0, 0, 0);
    }

    private static void mustAll(AgeFerry x, int many) {
        for (int number = 1; number < many; number++) {
            x.pair(1, number - 1, number, 1);
        }
    }

    /** "of SIZE at most": SIZE go in one boat, one more does not. */
    private static void sizeAtMost() {
        for (int size = 1; size <= 4; size++) {
            AgeFerry x = like(size, size, 99);
            mustAll(x, size);
            int all = (1 << size) - 1;
            int cost = size == 1 ? 99 : 0;
            dueDay("SIZE " + size, x, all, cost, 1, cost);
            AgeFerry y = like(size + 1, size, 99);
            int one = 2 * all + 1;
            int[][] due = {{}, {198, 2, 198}, {99, 2, 297}, {0, 2, 396}, {0, 2, 495}};
            dueDay("one above SIZE " + size, y, one, due[size][0], due[size][1], due[size][2]);
            mustAll(y, size + 1);
            dueDay("one above SIZE " + size + ", all MUST", y, one, NONE, NONE, NONE);
            dueDay("SIZE " + size + " of those who MUST", y, all, cost, 1, cost);
        }
    }

    /** The last waits for by as many as can go with it. */
    private static void sizeAtMostOfTheMost() {
        AgeFerry x = like(5, 2, 0);
        x.put(4, 1, 10);
        x.set(3, 1);
        int[] boats = {0, 5, 3, 3, 2};
        for (int size = 1; size <= 4; size++) {
            x.set(0, size);
            dueDay("SIZE " + size, x, 31, 0, boats[size], 10 * (size - 1));
        }
    }

    /** "10 at most": bits from 0 to 9. */
    private static void ofAllTen() {
        AgeFerry x = like(10, 1, 99);
        dueDay("ten alone", x, 1023, 990, 10, 990);
        dueDay("the tenth", x, 512, 99, 1, 99);
        x.set(0, 4);
        dueDay("ten by four", x, 1023, 0, 3, 990);
        x.set(0, 2);
        dueDay("ten by two", x, 1023, 0, 5, 990);
        dueDay("nine by two", x, 511, 99, 5, 891);
        Check.due("day(1024, 0)", x.day(1024, 0), BAD);
        Check.due("day(2047, 0)", x.day(2047, 0), BAD);
        Check.due("day(-1, 0)", x.day(-1, 0), BAD);
        Check.due("day(1023, 3)", x.day(1023, 3), BAD);
        Check.due("day(1023, -1)", x.day(1023, -1), BAD);
    }

    /** "MUST: in one boat, where both go" */
    private static void mustWhereBothGo() {
        AgeFerry x = Check.ferry("10;40;90", 2, 5);
        x.pair(1, 0, 1, 1);
        dueDay("both", x, 3, 30, 1, 30);
        dueDay("one of both", x, 1, 5, 1, 5);
        dueDay("the other", x, 2, 5, 1, 5);
        dueDay("one and another", x, 5, 10, 2, 80);
        dueDay("both and another", x, 7, 35, 2, 35);
        x.pair(1, 1, 2, 1);
        dueDay("three who MUST by SIZE 2", x, 7, NONE, NONE, NONE);
        dueDay("the ends of them", x, 5, 10, 2, 80);
        x.set(0, 3);
        dueDay("three who MUST by SIZE 3", x, 7, 80, 1, 80);
        AgeFerry y = Check.ferry("10;40", 1, 5);
        y.pair(1, 1, 2, 1);
        y.pair(1, 0, 9, 1);
        y.pair(1, 8, 9, 1);
        dueDay("who MUST go with one not there", y, 3, 10, 2, 10);
    }

    /** "WONT (pairs of numbers 0 to 9): not in one boat" */
    private static void wontGoInOneBoat() {
        AgeFerry x = like(3, 3, 7);
        x.pair(0, 0, 2, 1);
        dueDay("two who WONT", x, 5, 14, 2, 14);
        dueDay("three, of whom two WONT", x, 7, 7, 2, 21);
        x.pair(1, 0, 1, 1);
        x.pair(1, 1, 2, 1);
        dueDay("who MUST by a third one", x, 7, NONE, NONE, NONE);
        dueDay("without the third one", x, 5, 14, 2, 14);
        AgeFerry y = like(10, 4, 1);
        y.pair(0, 0, 9, 1);
        y.pair(1, 0, 9, 1);
        dueDay("first and last both", y, 1023, NONE, NONE, NONE);
        dueDay("the last of them", y, 1022, 0, 3, 9);
        dueDay("the first of them", y, 511, 0, 3, 9);
    }

    /** No sum is too large. */
    private static void theDearestDay() {
        AgeFerry x = dearest();
        dueDay("dearest", x, 1023, 2 * 2922 + 1140, 3, 2 * 2922 + 1140);
        dueDay("dearest four", x, 15, 2922, 1, 2922);
        dueDay("dearest pair", x, 768, 1140, 1, 1140);
        Check.due("dearest pays(0, 0)", x.pays(0, 0), 1461);
        Check.due("dearest pays(0, 1)", x.pays(0, 1), 2);
        Check.due("dearest with(7)", x.with(7), 240);
        // Without 3 the others of its boat go for nothing; without 2 they do too, and 3 goes with 8 and 9 for no more.
        Check.due("dearest odd()", x.odd(), 2);
        Check.sheet(x, 0, 9, 9, 9, 9, 0, 0, 0, 0, 5, 5);
        Check.due("dearest costs(0)", x.costs(0), 2 * 2922 + 1140);
    }

    // ---- promises 12 and 13: which DAY

    private static void theLeastAheadOfTheFewestBoats() {
        AgeFerry x = Check.ferry("5;6", 2, 0);
        dueDay("0 in two boats, 1 in one", x, 3, 0, 2, 1);
        Check.due("with(0)", x.with(0), 1);
        AgeFerry y = Check.ferry("5;7", 2, 1);
        dueDay("2 in two boats, 2 in one", y, 3, 2, 1, 2);
        Check.due("with(1)", y.with(1), 3);
    }

    /** "of like ones with the fewest boats" */
    private static void withTheFewestBoats() {
        for (int many = 1; many <= 4; many++) {
            AgeFerry x = like(many, many, 0);
            int all = (1 << many) - 1;
            Check.due("boats of " + many, x.day(all, 1), 1);
            Check.due("with(0) of " + many, x.with(0), all);
        }
        AgeFerry ten = like(10, 4, 0);
        Check.due("boats of ten by four", ten.day(1023, 1), 3);
        ten.set(0, 3);
        Check.due("boats of ten by three", ten.day(1023, 1), 4);
        ten.set(0, 1);
        Check.due("boats of ten by one", ten.day(1023, 1), 10);
    }

    private static void dueWith(String what, AgeFerry x, int... boats) {
        for (int boat : boats) {
            for (int person = 0; person < 10; person++) {
                if ((boat >> person & 1) == 1) {
                    Check.due("with(" + person + "), " + what, x.with(person), boat);
                }
            }
        }
    }

    /** "of like ones the one in which who has the least number goes in the boat with the least bits" */
    private static void withTheLeastBits() {
        dueWith("three by two", like(3, 2, 0), 1, 6);
        dueWith("five by four", like(5, 4, 0), 1, 30);
        dueWith("six by four", like(6, 4, 0), 3, 60);
        dueWith("seven by four", like(7, 4, 0), 7, 120);
        dueWith("eight by four", like(8, 4, 0), 15, 240);
        AgeFerry x = like(4, 2, 0);
        dueWith("four by two", x, 3, 12);
        x.pair(0, 0, 1, 1);
        dueWith("four by two, 0 and 1 WONT", x, 5, 10);
        x.pair(0, 0, 2, 1);
        dueWith("four by two, 0 goes with 3", x, 9, 6);
        AgeFerry y = like(5, 3, 0);
        y.pair(0, 2, 3, 1);
        y.pair(0, 1, 3, 1);
        dueWith("7 is less than 9", y, 7, 24);
    }

    /** "then who has the least of those left, and so on" */
    private static void thenOfThoseLeft() {
        dueWith("five by two", like(5, 2, 0), 1, 6, 24);
        dueWith("seven by two", like(7, 2, 0), 1, 6, 24, 96);
        dueWith("seven by three", like(7, 3, 0), 1, 14, 112);
        dueWith("ten by four", like(10, 4, 0), 3, 60, 960);
        AgeFerry x = like(5, 2, 0);
        x.pair(0, 1, 2, 1);
        dueWith("five by two, 1 and 2 WONT", x, 1, 10, 20);
        x.pair(0, 1, 3, 1);
        dueWith("five by two, 1 goes with 4", x, 1, 18, 12);
        AgeFerry y = like(6, 2, 0);
        y.pair(0, 2, 3, 1);
        dueWith("six by two, 2 and 3 WONT", y, 3, 20, 40);
    }

    private static void withTheFirstAndTheLast() {
        AgeFerry x = like(10, 2, 0);
        x.pair(1, 0, 9, 1);
        dueWith("first and last", x, 513, 6, 24, 96, 384);
        Check.due("with(10)", x.with(10), BAD);
        Check.due("with(-1)", x.with(-1), BAD);
        Check.due("with(0) of one", like(1, 1, 5).with(0), 1);
        Check.due("with(1) of one", like(1, 1, 5).with(1), BAD);
    }

    /** "NONE": of all PEOPLE, so of those too who could go. */
    private static void withWhenItCannotBe() {
        AgeFerry x = Scenes.stuck();
        for (int person = 0; person < 4; person++) {
            Check.due("with(" + person + ")", x.with(person), NONE);
        }
        Check.due("day(9, 0), who could go", x.day(9, 0), 34);
    }

    /** What is told holds at once for the DAY. */
    private static void everyChangeIsSeen() {
        AgeFerry x = Check.ferry("10;20;40", 2, 50);
        Check.due("at first", x.day(7, 0), 60);
        x.lie(1, 5);
        Check.due("by a LIE", x.day(7, 0), 65);
        x.set(1, 1);
        Check.due("by a LAW", x.day(7, 0), 50);
        x.put(0, 0, 53);
        x.put(1, 0, 57);
        Check.due("by WEIGHTS", x.day(7, 0), 53);
        Check.sheet(x, 0, 10, 21, 33);
        x.read(0);
        Check.due("by read", x.day(7, 0), 61);
        x.set(2, 40);
        Check.due("by ALONE", x.day(7, 0), 51);
        x.put(0, 1, 4);
        x.set(3, 1);
        Check.due("by WAIT", x.day(7, 0), 52);
        x.put(2, 1, 2);
        x.put(0, 1, 5);
        Check.due("by HOURS", x.day(7, 0), 54);
        x.pair(0, 1, 2, 1);
        Check.due("by WONT", x.day(7, 0), 56);
        x.pair(1, 0, 2, 1);
        Check.due("by MUST", x.day(7, 0), 66);
        x.set(0, 1);
        Check.due("by SIZE", x.day(7, 0), NONE);
        x.wipe();
        Check.due("by wipe", x.day(0, 0), 0);
        x.type('9');
        Check.due("by type", x.day(1, 0), 40);
    }

    // ---- promise 14: odd

    /** "NONE: nobody" */
    private static void oddOfNobodyAndOfOne() {
        Check.due("odd() of nobody", new AgeFerry().odd(), NONE);
        Check.due("odd() with a FAULT", Scenes.faulty().odd(), NONE);
        Check.due("odd() of one", like(1, 1, 99).odd(), 0);
        Check.due("odd() of two", Check.ferry("5;9", 2, 99).odd(), 0);
    }

    /** "of like ones the least" */
    private static void oddOfLikeOnes() {
        for (int many = 2; many <= 10; many++) {
            Check.due("odd() of " + many, like(many, 3, 7).odd(), 0);
        }
        AgeFerry x = Check.ferry("5;9;9;5;30", 2, 10);
        Check.due("odd(), the last one", x.odd(), 4);
        AgeFerry y = Check.ferry("5;30;5;30;5", 2, 40);
        // Without 0, 2 or 4: 0; without 1 or 3: {5, 5} and {5, 30} for 25.
        Check.due("odd(), 0 of 0, 2, 4", y.odd(), 0);
        y.pair(0, 2, 4, 1);
        Check.due("odd(), 2 of 2, 4", y.odd(), 2);
    }

    private static void oddOfTen() {
        AgeFerry x = Check.ferry("5;5;5;5;5;5;5;5;5;50", 3, 20);
        Check.due("odd() of ten", x.odd(), 9);
    }

    /** "or it cannot be without any" */
    private static void oddWhenItCannotBe() {
        AgeFerry x = like(4, 4, 5);
        x.pair(0, 0, 1, 1);
        x.pair(1, 0, 1, 1);
        Check.due("odd() of two who are stuck", x.odd(), 0);
        x.pair(0, 2, 3, 1);
        x.pair(1, 2, 3, 1);
        Check.due("odd() of twice two who are stuck", x.odd(), NONE);
        x.pair(0, 2, 3, 0);
        x.pair(0, 0, 1, 0);
        x.pair(0, 2, 1, 1);
        x.pair(1, 2, 1, 1);
        Check.due("odd(), not without 0", x.odd(), 1);
    }

    // ---- promises 15 and 16: told DAYS

    private static void dueJudged(AgeFerry x, int want, int... items) {
        Check.sheet(x, 3, items);
        Check.due("judged(3) of " + Arrays.toString(items), x.judged(3), want);
    }

    /** "its items are numbers of boats (0 to 9)" */
    private static void itemsAreNumbersOfBoats() {
        AgeFerry x = like(5, 4, 8);
        for (int number = 0; number <= 9; number++) {
            dueJudged(x, NONE, number, number, number, number, 9 - number);
        }
        for (int wrong : new int[] {-1, 10, 256, 65536, Integer.MIN_VALUE, Integer.MAX_VALUE}) {
            for (int person = 0; person < 5; person++) {
                int[] items = {0, 9, 0, 9, 0};
                items[person] = wrong;
                dueJudged(x, person, items);
                Check.due("costs(3)", x.costs(3), NOT);
            }
            dueJudged(x, 0, wrong, wrong, wrong, wrong, wrong);
            dueJudged(x, 2, 1, 1, wrong, 1, wrong);
        }
    }

    /** An item has the sign of its FORM. */
    private static void itemsOfEachForm() {
        AgeFerry x = like(2, 2, 8);
        for (int form = 0; form < 3; form++) {
            x.sheet(0, form, 2);
            x.lay(0, form, 0, 9);
            x.lay(0, form, 1, 9);
            Check.due("judged(0) by FORM " + form, x.judged(0), NONE);
            Check.due("costs(0) by FORM " + form, x.costs(0), 0);
            x.lay(0, form, 1, form == 0 ? 256 + 3 : form == 1 ? 65536 + 3 : 3);
            Check.due("judged(0), lowest bits by FORM " + form, x.judged(0), NONE);
            Check.due("costs(0), lowest bits by FORM " + form, x.costs(0), 16);
            x.lay(0, form, 1, -1);
            Check.due("judged(0), -1 by FORM " + form, x.judged(0), 1);
            x.lay(0, form, 0, form == 0 ? 128 : form == 1 ? 32768 : -32768);
            Check.due("judged(0), below 0 by FORM " + form, x.judged(0), 0);
        }
    }

    /** "NOT: it has fewer items than there are PEOPLE" */
    private static void fewerItemsThanPeople() {
        for (int many = 0; many <= 10; many++) {
            AgeFerry x = like(many, 1, 3);
            int[] items = {0, 1, 2, 3, 4, 5, 6, 7, 8, 9, 99, -99};
            for (int length = 0; length <= 12; length++) {
                dueJudged(x, length < many ? NOT : NONE, Arrays.copyOf(items, length));
                Check.due("costs(3)", x.costs(3), length < many ? NOT : 3 * many);
            }
        }
        AgeFerry x = like(3, 1, 3);
        x.sheet(0, 0, 60);
        Check.due("judged(0) of 60", x.judged(0), 0);
        x.set(0, 3);
        Check.due("judged(0) of 60 by SIZE 3", x.judged(0), NONE);
        Check.due("costs(0) of 60 by SIZE 3", x.costs(0), 0);
    }

    private static void judgedBySize() {
        for (int size = 1; size <= 4; size++) {
            AgeFerry x = like(6, size, 8);
            int[] items = {0, 1, 2, 3, 4, 5};
            Arrays.fill(items, 1, 1 + size, 9);
            dueJudged(x, NONE, items);
            items[1 + size] = 9;
            dueJudged(x, 1, items);
            items[1] = 0;
            dueJudged(x, size == 1 ? 0 : NONE, items);
        }
    }

    /** "whose boat (with all who are told to be in it)": so the first of it, be it against this one or another. */
    private static void judgedByWont() {
        AgeFerry x = like(5, 4, 8);
        x.pair(0, 2, 3, 1);
        dueJudged(x, NONE, 0, 0, 0, 1, 1);
        dueJudged(x, 2, 0, 0, 1, 1, 1);
        dueJudged(x, 0, 0, 1, 0, 0, 1);
        dueJudged(x, 1, 1, 0, 0, 0, 1);
        x.pair(0, 0, 9, 1);
        dueJudged(x, NONE, 0, 0, 0, 1, 1);
        x.pair(0, 0, 4, 1);
        dueJudged(x, 0, 0, 0, 0, 1, 0);
    }

    private static void judgedByMust() {
        AgeFerry x = like(5, 4, 8);
        x.pair(1, 2, 3, 1);
        dueJudged(x, NONE, 0, 0, 1, 1, 1);
        dueJudged(x, 2, 0, 0, 1, 2, 3);
        dueJudged(x, 0, 0, 1, 0, 1, 2);
        dueJudged(x, 1, 0, 1, 1, 2, 2);
        x.pair(1, 4, 5, 1);
        dueJudged(x, NONE, 0, 0, 1, 1, 2);
        x.pair(0, 2, 3, 1);
        dueJudged(x, 2, 0, 0, 1, 1, 2);
        dueJudged(x, 2, 0, 0, 1, 3, 2);
    }

    /** Of nobody no item is asked. */
    private static void judgedOfNobody() {
        AgeFerry x = new AgeFerry();
        dueJudged(x, NONE);
        dueJudged(x, NONE, 99, -1);
        AgeFerry faulty = Check.ferry("5;");
        dueJudged(faulty, NONE, 99);
    }

    private static void costsOfEveryBoat() {
        AgeFerry x = like(10, 1, 99);
        Check.sheet(x, 0, 9, 8, 7, 6, 5, 4, 3, 2, 1, 0);
        Check.due("costs(0) of ten boats", x.costs(0), 990);
        AgeFerry y = Check.ferry("10;20;31;45;60", 2, 7);
        for (int number = 0; number <= 9; number++) {
            int other = number == 0 ? 9 : number - 1;
            Check.sheet(y, 0, number, other, number, other, number == 4 ? 6 : 4);
            int due = other == 4 ? NOT : 21 + 25 + 7;
            Check.due("costs(0) by boat " + number, y.costs(0), due);
        }
        y.set(3, 2);
        y.put(2, 1, 3);
        Check.sheet(y, 0, 9, 8, 9, 8, 0, 5, 5);
        Check.due("costs(0) with WAIT", y.costs(0), 21 + 6 + 25 + 7);
        y.set(2, 0);
        Check.due("costs(0), ALONE for nothing", y.costs(0), 21 + 6 + 25);
    }

    private static void costsOfNobody() {
        AgeFerry x = new AgeFerry();
        x.set(2, 99);
        x.sheet(0, 0, 0);
        Check.due("costs(0) of nobody", x.costs(0), 0);
        x.sheet(0, 0, 5);
        Check.due("costs(0) of nobody, five items", x.costs(0), 0);
    }

    /** "NOT: .. (COSTS) one is JUDGED" */
    private static void costsOfAJudgedOne() {
        AgeFerry x = like(4, 2, 8);
        Check.sheet(x, 0, 0, 0, 1, 1);
        Check.due("costs(0) of none judged", x.costs(0), 0);
        x.pair(0, 2, 3, 1);
        Check.due("costs(0), 2 is judged by WONT", x.costs(0), NOT);
        x.pair(0, 2, 3, 0);
        x.pair(1, 1, 3, 1);
        Check.due("costs(0), 0 is judged by MUST", x.costs(0), NOT);
        x.pair(1, 1, 3, 0);
        x.set(0, 1);
        Check.due("costs(0), 0 is judged by SIZE", x.costs(0), NOT);
        x.set(0, 2);
        Check.due("costs(0) again", x.costs(0), 0);
        x.lay(0, 2, 3, 10);
        Check.due("costs(0), the last is judged", x.costs(0), NOT);
    }

    private static void askingChangesNothing() {
        Asked.unchanged("boat(6, 0)", Scenes::busy, x -> x.boat(6, 0), 14);
        Asked.unchanged("day(9, 0)", Scenes::busy, x -> x.day(9, 0), 34);
        Asked.unchanged("day(9, 1)", Scenes::busy, x -> x.day(9, 1), 2);
        Asked.unchanged("day(15, 2)", Scenes::busy, x -> x.day(15, 2), busyMost());
        Asked.unchanged("with(0) of stuck ones", Scenes::stuck, x -> x.with(0), NONE);
        // Without 1: {2, 3} for 14 and 11, 0 for 17. Without 2: {1, 3} for 6, 11 and 2 * 3, 0 for 17.
        Asked.unchanged("odd() of stuck ones", Scenes::stuck, AgeFerry::odd, 2);
        Asked.unchanged("judged(3)", Scenes::toldDay, x -> x.judged(3), NONE);
        Asked.unchanged("judged(3) of one judged", Scenes::judgedOne, x -> x.judged(3), 0);
        Asked.unchanged("costs(3)", Scenes::toldDay, x -> x.costs(3), 17 + 17 + 14);
    }

    /** {1, 2} MUST, 0 and 3 WONT: all of 0 and 3 go with them, or alone. */
    private static int busyMost() {
        AgeFerry x = Scenes.busy();
        return Math.max(x.boat(7, 0) + x.boat(8, 0), Math.max(x.boat(14, 0) + x.boat(1, 0), 17 + 17 + x.boat(6, 0)));
    }
}
