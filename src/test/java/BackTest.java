/** Promises 21 to 25: there and back, what was SEEN, AGES that fit, DAYS by a SEED. */
public final class BackTest {
    public static void main(String[] args) {
        promise21Back();
        promise22Seen();
        promise23Forget();
        promise24Ages();
        promise25Lot();
        Check.end("BackTest");
    }

    private static void promise21Back() {
        Check.due("back() of nobody", new AgeFerry().back(), 0);
        AgeFerry x = Check.ferry("10;30", 2, 5);
        Check.due("back(), all alone", x.back(), 20);
        x.set(2, 15);
        Check.due("back(), once together", x.back(), 20 + 30);
        x.pair(0, 0, 1, 1);
        Check.due("back() by WONT", x.back(), 60);
        x.pair(0, 0, 1, 0);
        x.pair(1, 0, 1, 1);
        Check.due("back() by MUST", x.back(), AgeFerry.NONE);
        x.pair(0, 0, 1, 1);
        Check.due("back(), no DAY at all", x.back(), AgeFerry.NONE);
        AgeFerry four = Check.ferry("10;11;20;22", 2, 99);
        // {0,1}, {2,3} for 3; then {0,2}, {1,3} or {0,3}, {1,2} for 21.
        Check.due("back() of four", four.back(), 24);
        AgeFerry trio = Check.ferry("10;10;10", 3, 7);
        // {0,1} and 2 alone; then {0,2} and 1 alone: not all three together, as then each goes back alone.
        Check.due("back() of three", trio.back(), 7 + 7);
        AgeFerry eight = Check.ferry("5;5;5;5;5;5;5;5", 4, 9);
        Check.due("back() of eight", eight.back(), 0);
        Check.type(eight, ";5");
        Check.due("back() of nine", eight.back(), AgeFerry.FULL);
        eight.pair(1, 0, 1, 1);
        Check.due("back() of nine with MUST", eight.back(), AgeFerry.FULL);
    }

    private static void promise22Seen() {
        AgeFerry x = new AgeFerry();
        Check.due("seen(0, 0, 1)", x.seen(0, 0, 1), AgeFerry.BAD);
        Check.due("seen(10, 0, 1)", x.seen(10, 0, 1), AgeFerry.BAD);
        Check.due("seen(0, -1, 1)", x.seen(0, -1, 1), AgeFerry.BAD);
        Check.due("seen(0, 1, -1)", x.seen(0, 1, -1), AgeFerry.BAD);
        Check.due("seen(0, 1, 201)", x.seen(0, 1, 201), AgeFerry.BAD);
        Check.due("count(6) behind BAD", x.count(6), 0);
        for (int many = 1; many <= 8; many++) {
            Check.due("seen, number " + many, x.seen(0, 9, many % 2 == 0 ? 0 : 200), many);
        }
        Check.due("seen, number 9", x.seen(1, 2, 3), AgeFerry.FULL);
        Check.due("seen, number 9, BAD ahead", x.seen(1, 1, 3), AgeFerry.BAD);
        Check.due("count(6)", x.count(6), 8);
    }

    private static void promise23Forget() {
        AgeFerry x = Check.ferry("5;9");
        Check.due("forget() of nothing", x.forget(), 0);
        x.seen(0, 1, 50);
        x.seen(1, 0, 51);
        Check.due("ages(0, 0) ahead", x.ages(0, 0), 0);
        Check.due("forget()", x.forget(), 2);
        Check.due("count(6)", x.count(6), 0);
        Check.due("ages(0, 0) behind", x.ages(0, 0), 121);
        Check.due("seen behind forget()", x.seen(0, 1, 50), 1);
    }

    private static void dueAges(AgeFerry x, int person, int many, int least, int greatest) {
        Check.due("ages(" + person + ", 0)", x.ages(person, 0), many);
        Check.due("ages(" + person + ", 1)", x.ages(person, 1), least);
        Check.due("ages(" + person + ", 2)", x.ages(person, 2), greatest);
    }

    private static void promise24Ages() {
        AgeFerry x = Check.ferry("50;60;20");
        dueAges(x, 0, 121, 0, 120);
        x.seen(0, 9, 1);
        dueAges(x, 0, 121, 0, 120);
        x.seen(1, 0, 40);
        dueAges(x, 0, 2, 20, 100);
        dueAges(x, 1, 2, 10, 90);
        dueAges(x, 2, 121, 0, 120);
        x.lie(0, 30);
        dueAges(x, 0, 1, 70, 70);
        dueAges(x, 1, 2, 40, 120);
        x.lie(0, -30);
        dueAges(x, 0, 1, 50, 50);
        x.seen(0, 2, 1);
        dueAges(x, 0, 0, AgeFerry.NONE, AgeFerry.NONE);
        x.lie(1, 0);
        x.forget();
        x.lie(2, -30);
        x.seen(0, 2, 0);
        dueAges(x, 0, 31, 0, 30);
        dueAges(x, 2, 1, 50, 50);
        x.put(0, 0, 0);
        x.set(1, 1);
        dueAges(x, 2, 1, 50, 50);
        Check.due("ages(3, 0)", x.ages(3, 0), AgeFerry.BAD);
        Check.due("ages(-1, 0)", x.ages(-1, 0), AgeFerry.BAD);
        Check.due("ages(0, 3)", x.ages(0, 3), AgeFerry.BAD);
        Check.due("ages(0, -1)", x.ages(0, -1), AgeFerry.BAD);
    }

    private static void promise25Lot() {
        Check.due("lot of nobody", new AgeFerry().lot(5), 0);
        AgeFerry x = Check.ferry("10;25;41", 2, 50);
        // SEED 1 becomes 1103527590, its upper bits are 16838, modulo 3 is 2: place 2 for 0; then place 0 for 1.
        Check.due("lot(1)", x.lot(1), 50 + 16);
        // SEED -1: upper bits 48697, modulo 3 is 1: place 1 for 0; 4409, modulo 2 is 1: of 0, 2 left place 2 for 1.
        Check.due("lot(-1)", x.lot(-1), 31 + 50);
        // SEED 0: upper bits 0, 54236, 42756: each one's own place.
        Check.due("lot(0)", x.lot(0), 15 + 50);
        x.pair(0, 0, 1, 1);
        x.pair(1, 0, 2, 1);
        Check.due("lot(0), pairs aside", x.lot(0), 15 + 50);
        x.set(0, 1);
        Check.due("lot(0), each alone", x.lot(0), 150);
        x.set(0, 3);
        Check.due("lot(0), all in one", x.lot(0), 31);
        x.set(3, 1);
        x.put(0, 1, 4);
        Check.due("lot(0), with WAIT", x.lot(0), 31 + 8);
    }
}
