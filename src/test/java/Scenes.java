/** Ferries on which something stands everywhere, so that a call which should change nothing has much to change. */
final class Scenes {
    private Scenes() {
    }

    /** Four PEOPLE; SHEETS: 0 bytes, 1 shorts, 2 ints, 3 is LOST. Each item is told apart from all others. */
    static AgeFerry busy() {
        return busy("10;34;31;40");
    }

    private static AgeFerry busy(String text) {
        AgeFerry x = Check.ferry(text);
        x.put(0, 0, 70);
        x.put(3, 0, 61);
        x.put(9, 0, 1);
        x.put(1, 1, 3);
        x.put(9, 1, 7);
        x.lie(2, -5);
        x.lie(9, 30);
        x.set(0, 3);
        x.set(1, 2);
        x.set(2, 17);
        x.set(3, 2);
        x.pair(0, 0, 3, 1);
        x.pair(0, 8, 9, 1);
        x.pair(1, 1, 2, 1);
        x.seen(0, 1, 24);
        x.seen(9, 2, 5);
        for (int s = 0; s < 3; s++) {
            x.sheet(s, s, 5 + s);
            for (int i = 0; i < 5 + s; i++) {
                x.lay(s, s, i, 10 * s + i + 1);
            }
        }
        return x;
    }

    /** Those who MUST go with one another WONT: no DAY of all can be. */
    static AgeFerry stuck() {
        return stuck(busy());
    }

    private static AgeFerry stuck(AgeFerry x) {
        x.pair(0, 1, 2, 1);
        return x;
    }

    static AgeFerry seven() {
        return busy("10;34;31;40;7;8;9");
    }

    static AgeFerry stuckSeven() {
        return stuck(seven());
    }

    static AgeFerry nine() {
        return busy("10;34;31;40;7;8;9;99;120");
    }

    static AgeFerry stuckNine() {
        return stuck(nine());
    }

    static AgeFerry ten() {
        return busy("10;34;31;40;7;8;9;99;120;0");
    }

    static AgeFerry nobody() {
        return busy("");
    }

    /** A text that is not ended, so that nobody is there. */
    static AgeFerry faulty() {
        return busy("10;34;31;40;");
    }

    /** Forty bytes: one more does not come behind them. */
    static AgeFerry fullText() {
        return busy("120;120;120;120;120;120;120;120;120;120;");
    }

    static AgeFerry fullSeen() {
        AgeFerry x = busy();
        for (int fare = 1; fare <= 6; fare++) {
            x.seen(3, 4, fare);
        }
        return x;
    }

    /** SHEET 3 has an item for all of the four but the last. */
    static AgeFerry fewItems() {
        AgeFerry x = busy();
        x.sheet(3, 2, 3);
        return x;
    }

    /** As fewItems(), and no DAY of all can be. */
    static AgeFerry fewItemsStuck() {
        return stuck(fewItems());
    }

    /** SHEET 3 tells a DAY of the four, in which 0 goes with 3, as they WONT. */
    static AgeFerry judgedOne() {
        AgeFerry x = busy();
        Check.sheet(x, 3, 0, 1, 1, 0);
        return x;
    }

    /** As judgedOne(), and too few items as well. */
    static AgeFerry judgedAndFew() {
        AgeFerry x = busy();
        Check.sheet(x, 3, 10, 1, 1);
        return x;
    }

    /** SHEET 3 tells a DAY of the four that can be. */
    static AgeFerry toldDay() {
        AgeFerry x = busy();
        Check.sheet(x, 3, 0, 9, 9, 3);
        return x;
    }

    static AgeFerry allLost() {
        AgeFerry x = busy();
        for (int s = 0; s < 3; s++) {
            x.lose(s);
        }
        return x;
    }
}
