/** Promises 11 to 16: boats, the best DAY, the odd one, told DAYS. */
public final class DaysTest {
    public static void main(String[] args) {
        promise11Boat();
        promise12Day();
        promise12DayByPairs();
        promise13WithOfLikeOnes();
        promise14Odd();
        promise15Judged();
        promise16Costs();
        Check.end("DaysTest");
    }

    private static void promise11Boat() {
        AgeFerry x = Check.ferry("10;25;40;7", 2, 13);
        x.put(0, 0, 70);
        x.put(1, 0, 61);
        x.put(0, 1, 3);
        x.put(1, 1, 5);
        x.put(2, 1, 9);
        Check.due("boat(3, 0)", x.boat(3, 0), 15);
        Check.due("boat of one", x.boat(4, 0), 13);
        Check.due("boat above SIZE", x.boat(15, 1), 33);
        x.pair(0, 0, 1, 1);
        x.pair(1, 0, 2, 1);
        Check.due("boat against WONT and MUST", x.boat(3, 0), 15);
        x.set(1, 1);
        Check.due("boat(3, 1) by LAW 1", x.boat(3, 1), 9);
        Check.due("boat of one by LAW 1", x.boat(1, 1), 13);
        x.set(1, 2);
        Check.due("boat(3, 1) by LAW 2", x.boat(3, 1), 24);
        x.set(3, 9);
        Check.due("boat(3, 0) that waits", x.boat(3, 0), 24 + 9 * 2);
        Check.due("boat(7, 0) that waits", x.boat(7, 0), 30 + 20 + 9 * (6 + 4));
        Check.due("FARE of a boat that waits", x.boat(3, 1), 24);
        Check.due("one alone waits for nobody", x.boat(4, 0), 13);
        x.lie(0, -30);
        Check.due("FARE by a LIE", x.boat(3, 1), 25 + 9);
        Check.due("boat(0, 0)", x.boat(0, 0), AgeFerry.BAD);
        Check.due("boat(16, 0)", x.boat(16, 0), AgeFerry.BAD);
        Check.due("boat(-1, 0)", x.boat(-1, 0), AgeFerry.BAD);
        Check.due("boat(1, 2)", x.boat(1, 2), AgeFerry.BAD);
        Check.due("boat(1, -1)", x.boat(1, -1), AgeFerry.BAD);
    }

    private static void dueDay(AgeFerry x, int people, int least, int boats, int most) {
        Check.due("day(" + people + ", 0)", x.day(people, 0), least);
        Check.due("day(" + people + ", 1)", x.day(people, 1), boats);
        Check.due("day(" + people + ", 2)", x.day(people, 2), most);
    }

    private static void promise12Day() {
        AgeFerry x = Check.ferry("10;25;41", 2, 20);
        dueDay(x, 0, 0, 0, 0);
        dueDay(x, 1, 20, 1, 20);
        dueDay(x, 3, 15, 1, 40);
        dueDay(x, 5, 31, 1, 40);
        dueDay(x, 7, 35, 2, 60);
        x.set(0, 3);
        dueDay(x, 7, 31, 1, 60);
        x.set(0, 1);
        dueDay(x, 7, 60, 3, 60);
        x.set(0, 2);
        x.set(2, 0);
        dueDay(x, 7, 0, 3, 31);
        Check.due("day(8, 0)", x.day(8, 0), AgeFerry.BAD);
        Check.due("day(-1, 0)", x.day(-1, 0), AgeFerry.BAD);
        Check.due("day(7, 3)", x.day(7, 3), AgeFerry.BAD);
        Check.due("day(7, -1)", x.day(7, -1), AgeFerry.BAD);
    }

    private static void promise12DayByPairs() {
        AgeFerry x = Check.ferry("10;10;10", 2, 9);
        dueDay(x, 3, 0, 1, 18);
        x.pair(0, 0, 1, 1);
        dueDay(x, 3, 18, 2, 18);
        x.pair(1, 0, 2, 1);
        dueDay(x, 7, 9, 2, 9);
        dueDay(x, 1, 9, 1, 9);
        x.pair(1, 1, 2, 1);
        dueDay(x, 7, AgeFerry.NONE, AgeFerry.NONE, AgeFerry.NONE);
        dueDay(x, 6, 0, 1, 0);
        x.set(0, 4);
        dueDay(x, 7, AgeFerry.NONE, AgeFerry.NONE, AgeFerry.NONE);
        x.pair(0, 0, 1, 0);
        dueDay(x, 7, 0, 1, 0);
        x.set(0, 2);
        dueDay(x, 7, AgeFerry.NONE, AgeFerry.NONE, AgeFerry.NONE);
        x.pair(1, 7, 8, 1);
        x.pair(1, 1, 2, 0);
        dueDay(x, 7, 9, 2, 9);
    }

    private static void promise13WithOfLikeOnes() {
        AgeFerry x = Check.ferry("5;5;5", 3, 0);
        Check.due("with(0), fewest boats", x.with(0), 7);
        x.set(0, 2);
        Check.due("with(0), least bits", x.with(0), 1);
        Check.due("with(1), least bits", x.with(1), 6);
        AgeFerry y = Check.ferry("5;5;5;5", 2, 0);
        y.pair(0, 0, 1, 1);
        Check.due("with(0) by WONT", y.with(0), 5);
        Check.due("with(3) by WONT", y.with(3), 10);
        // The boats {0,1,2}, {3,4} and {0,3}, {1,2,4}: 7 is less than 9, though three are more than two.
        AgeFerry z = Check.ferry("5;5;5;5;5", 3, 0);
        z.pair(0, 2, 3, 1);
        z.pair(0, 1, 3, 1);
        Check.due("with(0), bits as a number", z.with(0), 7);
        Check.due("with(3), bits as a number", z.with(3), 24);
        z.pair(0, 0, 1, 1);
        z.pair(1, 0, 1, 1);
        Check.due("with(2), NONE", z.with(2), AgeFerry.NONE);
        Check.due("with(5)", z.with(5), AgeFerry.BAD);
        Check.due("with(-1)", z.with(-1), AgeFerry.BAD);
    }

    private static void promise14Odd() {
        AgeFerry x = Check.ferry("10;20;31", 2, 50);
        Check.due("odd()", x.odd(), 2);
        x.lie(2, -1);
        Check.due("odd() of like ones", x.odd(), 0);
        x.pair(0, 0, 2, 1);
        x.pair(1, 0, 2, 1);
        Check.due("odd(), not without 1", x.odd(), 0);
        x.pair(0, 1, 2, 1);
        x.pair(1, 1, 2, 1);
        Check.due("odd(), only without 2", x.odd(), 2);
        x.pair(0, 0, 1, 1);
        x.pair(1, 0, 1, 1);
        Check.due("odd(), not without any", x.odd(), AgeFerry.NONE);
        Check.due("odd() of one", Check.ferry("5").odd(), 0);
        Check.due("odd() of nobody", new AgeFerry().odd(), AgeFerry.NONE);
    }

    private static void dueJudged(AgeFerry x, int want, int... items) {
        Check.sheet(x, 1, items);
        Check.due("judged(1) of " + java.util.Arrays.toString(items), x.judged(1), want);
    }

    private static void promise15Judged() {
        AgeFerry x = Check.ferry("10;20;31;40", 2, 50);
        Check.due("judged(-1)", x.judged(-1), AgeFerry.BAD);
        Check.due("judged(4)", x.judged(4), AgeFerry.BAD);
        Check.due("judged(1), LOST", x.judged(1), -11);
        dueJudged(x, AgeFerry.NOT, 0, 0, 1);
        dueJudged(x, AgeFerry.NONE, 0, 0, 1, 1);
        dueJudged(x, AgeFerry.NONE, 9, 0, 9, 0, 77, -1);
        dueJudged(x, 1, 3, 2, 2, 2);
        dueJudged(x, 2, 3, 2, 10, 2);
        dueJudged(x, 3, 3, 2, 2, -1);
        x.pair(0, 1, 2, 1);
        dueJudged(x, 1, 0, 1, 1, 2);
        x.pair(1, 2, 3, 1);
        dueJudged(x, AgeFerry.NONE, 0, 0, 1, 1);
        dueJudged(x, 0, 0, 1, 0, 1);
        dueJudged(x, 2, 0, 1, 2, 10);
        x.pair(1, 3, 9, 1);
        dueJudged(x, AgeFerry.NONE, 0, 0, 1, 1);
        AgeFerry nobody = new AgeFerry();
        nobody.sheet(0, 0, 0);
        Check.due("judged of nobody", nobody.judged(0), AgeFerry.NONE);
    }

    private static void promise16Costs() {
        AgeFerry x = Check.ferry("10;20;31;40", 2, 50);
        Check.due("costs(-1)", x.costs(-1), AgeFerry.BAD);
        Check.due("costs(4)", x.costs(4), AgeFerry.BAD);
        Check.due("costs(0), LOST", x.costs(0), -11);
        Check.due("count(8) behind NULL", x.count(8), 1);
        Check.sheet(x, 0, 0, 0, 1);
        Check.due("costs, too few items", x.costs(0), AgeFerry.NOT);
        Check.sheet(x, 0, 0, 1, 0, 1);
        Check.due("costs of two boats", x.costs(0), 21 + 20);
        Check.sheet(x, 0, 7, 1, 9, 1, 3, 10);
        Check.due("costs of three boats", x.costs(0), 50 + 50 + 20);
        x.set(3, 2);
        x.put(1, 1, 6);
        Check.due("costs of boats that wait", x.costs(0), 50 + 50 + 20 + 12);
        x.pair(0, 1, 3, 1);
        Check.due("costs of a judged one", x.costs(0), AgeFerry.NOT);
    }
}
