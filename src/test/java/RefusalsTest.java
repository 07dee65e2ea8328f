import java.util.List;
import java.util.function.Supplier;
import java.util.function.ToLongFunction;

/** Each refusal of each call: alone, and where two fit at once; and that it changes nothing but the latest FINDING. */
public final class RefusalsTest {
    private static final int BAD = AgeFerry.BAD, NOT = AgeFerry.NOT, FULL = AgeFerry.FULL;
    private static final int NULL = 1, INDEX = 2, CAST = 3, STORE = 4, SIZE = 5;
    private static final int LEAST = Integer.MIN_VALUE, GREATEST = Integer.MAX_VALUE;
    private static final long LONG_BAD = Check.longRefusal(2);
    private static final long LONG_NOT = Check.longRefusal(3);
    private static final long LONG_FULL = Check.longRefusal(4);
    private static final int ANY_BAD = -1002, ANY_NOT = -1003;
    private static final int[] NO_NUMBERS = {-1, 10, 32, LEAST, GREATEST};
    private static final int[] NO_SHEETS = {-1, 4, LEAST, GREATEST};
    private static final int[] NO_FORMS = {-1, 3, LEAST, GREATEST};
    private static final int[] NOT_ONE_OF_FOUR = {-1, 4, 9, 32, LEAST, GREATEST};
    private static final int[] NOT_0_OR_1 = {-1, 2, LEAST, GREATEST};
    private static final int[] NOT_0_TO_2 = {-1, 3, LEAST, GREATEST};

    public static void main(String[] args) {
        people();
        laws();
        days();
        toldDays();
        shares();
        back();
        sheets();
        items();
        copies();
        written();
        Check.end("RefusalsTest");
    }

    private static void refused(String call, Supplier<AgeFerry> made, ToLongFunction<AgeFerry> asked, long answer) {
        Asked.unchanged(call, made, asked, answer);
    }

    private static void found(String call, Supplier<AgeFerry> made, ToLongFunction<AgeFerry> asked, int finding) {
        Asked.found(call, made, asked, -10 - finding, finding);
    }

    // ---- promises 1 to 5, 24: people

    private static void people() {
        typeIsBad();
        typeIsFull();
        personIsBad();
        agesIsBad();
    }

    /** "A byte (0 to 255)"; BAD stands ahead of FULL. */
    private static void typeIsBad() {
        for (int b : new int[] {-1, 256, LEAST, GREATEST}) {
            refused("type(" + b + ")", Scenes::busy, x -> x.type(b), BAD);
            refused("type(" + b + ") when full", Scenes::fullText, x -> x.type(b), BAD);
        }
    }

    /** "a text of up to 40 bytes" */
    private static void typeIsFull() {
        refused("type(48) when full", Scenes::fullText, x -> x.type(48), FULL);
        refused("type(0) when full", Scenes::fullText, x -> x.type(0), FULL);
        refused("type(255) when full", Scenes::fullText, x -> x.type(255), FULL);
    }

    private static void personIsBad() {
        for (int person : NOT_ONE_OF_FOUR) {
            refused("person(" + person + ", 0)", Scenes::busy, x -> x.person(person, 0), BAD);
            refused("person(" + person + ", 1)", Scenes::busy, x -> x.person(person, 1), BAD);
            refused("person(" + person + ", 2)", Scenes::busy, x -> x.person(person, 2), BAD);
        }
        for (int what : NOT_0_OR_1) {
            refused("person(0, " + what + ")", Scenes::busy, x -> x.person(0, what), BAD);
        }
        refused("person(0, 0) of nobody", Scenes::nobody, x -> x.person(0, 0), BAD);
        refused("person(0, 0) with a FAULT", Scenes::faulty, x -> x.person(0, 0), BAD);
        refused("person(10, 0) of ten", Scenes::ten, x -> x.person(10, 0), BAD);
    }

    private static void agesIsBad() {
        for (int person : NOT_ONE_OF_FOUR) {
            refused("ages(" + person + ", 0)", Scenes::busy, x -> x.ages(person, 0), BAD);
            refused("ages(" + person + ", 3)", Scenes::busy, x -> x.ages(person, 3), BAD);
        }
        for (int what : NOT_0_TO_2) {
            refused("ages(0, " + what + ")", Scenes::busy, x -> x.ages(0, what), BAD);
        }
        refused("ages(0, 0) of nobody", Scenes::nobody, x -> x.ages(0, 0), BAD);
        refused("ages(0, 0) with a FAULT", Scenes::faulty, x -> x.ages(0, 0), BAD);
        refused("ages(10, 0) of ten", Scenes::ten, x -> x.ages(10, 0), BAD);
    }

    // ---- promises 6 to 10, 22, 32: numbers and laws

    private static void laws() {
        putIsBad();
        lieIsBad();
        readIsRefused();
        setIsBad();
        pairIsBad();
        seenIsBad();
        seenIsFull();
        countIsBad();
    }

    private static void putIsBad() {
        for (int number : NO_NUMBERS) {
            refused("put(" + number + ", 0, 5)", Scenes::busy, x -> x.put(number, 0, 5), BAD);
            refused("put(" + number + ", 1, 5)", Scenes::busy, x -> x.put(number, 1, 5), BAD);
            refused("put(" + number + ", 2, 100)", Scenes::busy, x -> x.put(number, 2, 100), BAD);
        }
        for (int what : NOT_0_OR_1) {
            refused("put(0, " + what + ", 5)", Scenes::busy, x -> x.put(0, what, 5), BAD);
        }
        for (int v : new int[] {-1, 100, LEAST, GREATEST}) {
            refused("put(0, 0, " + v + ")", Scenes::busy, x -> x.put(0, 0, v), BAD);
            refused("put(9, 1, " + v + ")", Scenes::busy, x -> x.put(9, 1, v), BAD);
        }
    }

    /** "Where any number is told, it is -1000 less x" */
    private static void lieIsBad() {
        for (int number : NO_NUMBERS) {
            refused("lie(" + number + ", 5)", Scenes::busy, x -> x.lie(number, 5), ANY_BAD);
            refused("lie(" + number + ", 31)", Scenes::busy, x -> x.lie(number, 31), ANY_BAD);
        }
        for (int v : new int[] {-31, 31, LEAST, GREATEST}) {
            refused("lie(0, " + v + ")", Scenes::busy, x -> x.lie(0, v), ANY_BAD);
            refused("lie(9, " + v + ")", Scenes::busy, x -> x.lie(9, v), ANY_BAD);
        }
    }

    private static void readIsRefused() {
        for (int s : NO_SHEETS) {
            refused("read(" + s + ")", Scenes::busy, x -> x.read(s), BAD);
        }
        found("read(3), LOST", Scenes::busy, x -> x.read(3), NULL);
    }

    private static void setIsBad() {
        int[] least = {1, 0, 0, 0};
        int[] greatest = {4, 2, 99, 9};
        for (int what = 0; what < 4; what++) {
            int which = what;
            for (int v : new int[] {least[what] - 1, greatest[what] + 1, LEAST, GREATEST}) {
                refused("set(" + what + ", " + v + ")", Scenes::busy, x -> x.set(which, v), BAD);
            }
        }
        for (int what : new int[] {-1, 4, LEAST, GREATEST}) {
            refused("set(" + what + ", 1)", Scenes::busy, x -> x.set(what, 1), BAD);
            refused("set(" + what + ", -1)", Scenes::busy, x -> x.set(what, -1), BAD);
        }
    }

    /** "BAD: also one with itself" */
    private static void pairIsBad() {
        for (int kind : NOT_0_OR_1) {
            refused("pair(" + kind + ", 0, 1, 1)", Scenes::busy, x -> x.pair(kind, 0, 1, 1), BAD);
        }
        for (int kind = 0; kind < 2; kind++) {
            int which = kind;
            for (int number : NO_NUMBERS) {
                refused("pair(.., " + number + ", 1, 1)", Scenes::busy, x -> x.pair(which, number, 1, 1), BAD);
                refused("pair(.., 1, " + number + ", 1)", Scenes::busy, x -> x.pair(which, 1, number, 1), BAD);
                refused("pair(.., twice " + number + ", 1)", Scenes::busy, x -> x.pair(which, number, number, 1), BAD);
            }
            for (int v : NOT_0_OR_1) {
                refused("pair(.., 0, 1, " + v + ")", Scenes::busy, x -> x.pair(which, 0, 1, v), BAD);
            }
            for (int number = 0; number < 10; number += 9) {
                int one = number;
                refused("pair(.., with itself, 1)", Scenes::busy, x -> x.pair(which, one, one, 1), BAD);
                refused("pair(.., with itself, 0)", Scenes::busy, x -> x.pair(which, one, one, 0), BAD);
            }
        }
    }

    /** "BAD: also one with itself"; BAD stands ahead of FULL. */
    private static void seenIsBad() {
        for (Supplier<AgeFerry> made : List.<Supplier<AgeFerry>>of(Scenes::busy, Scenes::fullSeen)) {
            for (int number : NO_NUMBERS) {
                refused("seen(" + number + ", 1, 5)", made, x -> x.seen(number, 1, 5), BAD);
                refused("seen(1, " + number + ", 5)", made, x -> x.seen(1, number, 5), BAD);
            }
            for (int fare : new int[] {-1, 201, LEAST, GREATEST}) {
                refused("seen(0, 1, " + fare + ")", made, x -> x.seen(0, 1, fare), BAD);
            }
            refused("seen(0, 0, 5)", made, x -> x.seen(0, 0, 5), BAD);
            refused("seen(9, 9, 5)", made, x -> x.seen(9, 9, 5), BAD);
        }
    }

    /** "SEEN, 8 at most" */
    private static void seenIsFull() {
        refused("seen, number 9", Scenes::fullSeen, x -> x.seen(5, 6, 7), FULL);
        refused("seen, number 9, as before", Scenes::fullSeen, x -> x.seen(0, 1, 24), FULL);
    }

    private static void countIsBad() {
        for (int what : new int[] {-1, 9, LEAST, GREATEST}) {
            refused("count(" + what + ")", Scenes::busy, x -> x.count(what), BAD);
        }
    }

    // ---- promises 11 to 14: days

    private static void days() {
        boatIsBad();
        dayIsBad();
        withIsBad();
    }

    /** "BAD: also nobody" */
    private static void boatIsBad() {
        refused("boat(0, 0)", Scenes::busy, x -> x.boat(0, 0), BAD);
        refused("boat(0, 1)", Scenes::busy, x -> x.boat(0, 1), BAD);
        refused("boat(0, 2)", Scenes::busy, x -> x.boat(0, 2), BAD);
        for (int bit = 4; bit < 32; bit++) {
            int people = 1 << bit | 3;
            Check.due("boat(" + people + ", 0)", Scenes.busy().boat(people, 0), BAD);
            Check.due("boat(1 << " + bit + ", 1)", Scenes.busy().boat(1 << bit, 1), BAD);
        }
        refused("boat(16, 0)", Scenes::busy, x -> x.boat(16, 0), BAD);
        refused("boat(-1, 0)", Scenes::busy, x -> x.boat(-1, 0), BAD);
        for (int what : NOT_0_OR_1) {
            refused("boat(3, " + what + ")", Scenes::busy, x -> x.boat(3, what), BAD);
        }
        refused("boat(1024, 0) of ten", Scenes::ten, x -> x.boat(1024, 0), BAD);
        refused("boat(1, 0) of nobody", Scenes::nobody, x -> x.boat(1, 0), BAD);
        refused("boat(0, 0) of nobody", Scenes::nobody, x -> x.boat(0, 0), BAD);
        refused("boat(1, 0) with a FAULT", Scenes::faulty, x -> x.boat(1, 0), BAD);
    }

    private static void dayIsBad() {
        for (int bit = 4; bit < 32; bit++) {
            int people = 1 << bit | 3;
            Check.due("day(" + people + ", 0)", Scenes.busy().day(people, 0), BAD);
            Check.due("day(1 << " + bit + ", 2)", Scenes.busy().day(1 << bit, 2), BAD);
        }
        refused("day(16, 0)", Scenes::busy, x -> x.day(16, 0), BAD);
        refused("day(-1, 1)", Scenes::busy, x -> x.day(-1, 1), BAD);
        for (int what : NOT_0_TO_2) {
            refused("day(3, " + what + ")", Scenes::busy, x -> x.day(3, what), BAD);
            refused("day(0, " + what + ")", Scenes::busy, x -> x.day(0, what), BAD);
        }
        refused("day(15, 3), BAD ahead of NONE", Scenes::stuck, x -> x.day(15, 3), BAD);
        refused("day(1024, 0) of ten", Scenes::ten, x -> x.day(1024, 0), BAD);
        refused("day(1, 0) of nobody", Scenes::nobody, x -> x.day(1, 0), BAD);
        refused("day(1, 0) with a FAULT", Scenes::faulty, x -> x.day(1, 0), BAD);
    }

    private static void withIsBad() {
        for (int person : NOT_ONE_OF_FOUR) {
            refused("with(" + person + ")", Scenes::busy, x -> x.with(person), BAD);
            refused("with(" + person + "), BAD ahead of NONE", Scenes::stuck, x -> x.with(person), BAD);
        }
        refused("with(0) of nobody", Scenes::nobody, x -> x.with(0), BAD);
        refused("with(0) with a FAULT", Scenes::faulty, x -> x.with(0), BAD);
        refused("with(10) of ten", Scenes::ten, x -> x.with(10), BAD);
    }

    // ---- promises 15, 16, 19: what a SHEET tells of all PEOPLE

    private static void toldDays() {
        judgedIsRefused();
        costsIsRefused();
        ratherIsRefused();
    }

    /** A LOST SHEET has no items: NULL stands ahead of NOT. */
    private static void judgedIsRefused() {
        for (int s : NO_SHEETS) {
            refused("judged(" + s + ")", Scenes::busy, x -> x.judged(s), BAD);
        }
        found("judged(3), NULL ahead of NOT", Scenes::busy, x -> x.judged(3), NULL);
        found("judged(3) of nobody, NULL", Scenes::nobody, x -> x.judged(3), NULL);
        refused("judged(3), fewer items", Scenes::fewItems, x -> x.judged(3), NOT);
        refused("judged(3), fewer items and one to be judged", Scenes::judgedAndFew, x -> x.judged(3), NOT);
    }

    private static void costsIsRefused() {
        for (int s : NO_SHEETS) {
            refused("costs(" + s + ")", Scenes::busy, x -> x.costs(s), BAD);
        }
        found("costs(3), NULL ahead of NOT", Scenes::busy, x -> x.costs(3), NULL);
        found("costs(3) of nobody, NULL", Scenes::nobody, x -> x.costs(3), NULL);
        refused("costs(3), fewer items", Scenes::fewItems, x -> x.costs(3), NOT);
        refused("costs(3), one is judged", Scenes::judgedOne, x -> x.costs(3), NOT);
        refused("costs(3), fewer items and one to be judged", Scenes::judgedAndFew, x -> x.costs(3), NOT);
    }

    private static void ratherIsRefused() {
        for (int s : NO_SHEETS) {
            refused("rather(" + s + ")", Scenes::busy, x -> x.rather(s), BAD);
            refused("rather(" + s + "), BAD ahead of NOT", Scenes::stuck, x -> x.rather(s), BAD);
        }
        found("rather(3), NULL", Scenes::busy, x -> x.rather(3), NULL);
        found("rather(3) of nobody, NULL", Scenes::nobody, x -> x.rather(3), NULL);
        found("rather(3), NULL ahead of NOT", Scenes::stuck, x -> x.rather(3), NULL);
        refused("rather(3), fewer items", Scenes::fewItems, x -> x.rather(3), NOT);
        refused("rather(2), some LEAST cannot be", Scenes::stuck, x -> x.rather(2), NOT);
        refused("rather(3), both", Scenes::fewItemsStuck, x -> x.rather(3), NOT);
    }

    // ---- promises 17, 18, 20: shares

    private static void shares() {
        paysIsBad();
        paysIsNot();
        shareIsBad();
        shareIsFull();
        shareIsNot();
        liesIsRefused();
    }

    /** BAD stands ahead of NOT. */
    private static void paysIsBad() {
        for (Supplier<AgeFerry> made : List.<Supplier<AgeFerry>>of(Scenes::busy, Scenes::stuck)) {
            for (int person : NOT_ONE_OF_FOUR) {
                refused("pays(" + person + ", 0)", made, x -> x.pays(person, 0), LONG_BAD);
                refused("pays(" + person + ", 1)", made, x -> x.pays(person, 1), LONG_BAD);
            }
            for (int what : NOT_0_OR_1) {
                refused("pays(0, " + what + ")", made, x -> x.pays(0, what), LONG_BAD);
            }
        }
        refused("pays(0, 0) of nobody", Scenes::nobody, x -> x.pays(0, 0), LONG_BAD);
        refused("pays(0, 0) with a FAULT", Scenes::faulty, x -> x.pays(0, 0), LONG_BAD);
        refused("pays(10, 0) of ten", Scenes::ten, x -> x.pays(10, 0), LONG_BAD);
    }

    private static void paysIsNot() {
        for (int person = 0; person < 4; person++) {
            int one = person;
            refused("pays(" + person + ", 0), NOT", Scenes::stuck, x -> x.pays(one, 0), LONG_NOT);
            refused("pays(" + person + ", 1), NOT", Scenes::stuck, x -> x.pays(one, 1), LONG_NOT);
        }
    }

    /** BAD stands ahead of FULL, and of NOT. */
    private static void shareIsBad() {
        for (int person : NOT_ONE_OF_FOUR) {
            refused("share(" + person + ", 0)", Scenes::busy, x -> x.share(person, 0), LONG_BAD);
            refused("share(" + person + ", 1), NOT too", Scenes::stuck, x -> x.share(person, 1), LONG_BAD);
        }
        for (int what : NOT_0_OR_1) {
            refused("share(0, " + what + ")", Scenes::busy, x -> x.share(0, what), LONG_BAD);
            refused("share(0, " + what + "), NOT too", Scenes::stuck, x -> x.share(0, what), LONG_BAD);
            refused("share(0, " + what + "), FULL too", Scenes::seven, x -> x.share(0, what), LONG_BAD);
            refused("share(0, " + what + "), all three", Scenes::stuckSeven, x -> x.share(0, what), LONG_BAD);
        }
        refused("share(7, 0), FULL too", Scenes::seven, x -> x.share(7, 0), LONG_BAD);
        refused("share(7, 0), all three", Scenes::stuckSeven, x -> x.share(7, 0), LONG_BAD);
        refused("share(10, 0) of ten", Scenes::ten, x -> x.share(10, 0), LONG_BAD);
        refused("share(0, 0) of nobody", Scenes::nobody, x -> x.share(0, 0), LONG_BAD);
        refused("share(0, 0) with a FAULT", Scenes::faulty, x -> x.share(0, 0), LONG_BAD);
    }

    /** "FULL, ahead of that": of NOT. */
    private static void shareIsFull() {
        for (int person = 0; person < 7; person += 6) {
            int one = person;
            refused("share(" + person + ", 0) of seven", Scenes::seven, x -> x.share(one, 0), LONG_FULL);
            refused("share(" + person + ", 1) of seven", Scenes::seven, x -> x.share(one, 1), LONG_FULL);
            refused("share(" + person + ", 0), NOT too", Scenes::stuckSeven, x -> x.share(one, 0), LONG_FULL);
            refused("share(" + person + ", 1), NOT too", Scenes::stuckSeven, x -> x.share(one, 1), LONG_FULL);
        }
        refused("share(9, 0) of ten", Scenes::ten, x -> x.share(9, 0), LONG_FULL);
    }

    private static void shareIsNot() {
        for (int person = 0; person < 4; person++) {
            int one = person;
            refused("share(" + person + ", 0), NOT", Scenes::stuck, x -> x.share(one, 0), LONG_NOT);
            refused("share(" + person + ", 1), NOT", Scenes::stuck, x -> x.share(one, 1), LONG_NOT);
        }
    }

    private static void liesIsRefused() {
        for (int person : NOT_ONE_OF_FOUR) {
            refused("lies(" + person + ", 3)", Scenes::busy, x -> x.lies(person, 3), ANY_BAD);
            refused("lies(" + person + ", 3), NOT too", Scenes::stuck, x -> x.lies(person, 3), ANY_BAD);
            refused("lies(" + person + ", 31)", Scenes::busy, x -> x.lies(person, 31), ANY_BAD);
        }
        for (int most : new int[] {-1, 31, LEAST, GREATEST}) {
            refused("lies(0, " + most + ")", Scenes::busy, x -> x.lies(0, most), ANY_BAD);
            refused("lies(0, " + most + "), NOT too", Scenes::stuck, x -> x.lies(0, most), ANY_BAD);
        }
        refused("lies(0, 3) of nobody", Scenes::nobody, x -> x.lies(0, 3), ANY_BAD);
        refused("lies(0, 3) with a FAULT", Scenes::faulty, x -> x.lies(0, 3), ANY_BAD);
        refused("lies(10, 3) of ten", Scenes::ten, x -> x.lies(10, 3), ANY_BAD);
        for (int most = 0; most <= 30; most += 30) {
            int longest = most;
            refused("lies(0, " + most + "), NOT", Scenes::stuck, x -> x.lies(0, longest), ANY_NOT);
            refused("lies(3, " + most + "), NOT", Scenes::stuck, x -> x.lies(3, longest), ANY_NOT);
        }
    }

    // ---- promise 21: back

    /** "8 PEOPLE at most (FULL)"; FULL stands, whether a DAY can be or not. */
    private static void back() {
        refused("back() of nine", Scenes::nine, AgeFerry::back, FULL);
        refused("back() of nine who are stuck", Scenes::stuckNine, AgeFerry::back, FULL);
        refused("back() of ten", Scenes::ten, AgeFerry::back, FULL);
    }

    // ---- promises 26, 27: sheets

    private static void sheets() {
        sheetIsBad();
        sheetIsOfASizeBelow0();
        loseIsRefused();
    }

    /** "BAD: SHEET, FORM, above 60"; BAD stands ahead of SIZE. */
    private static void sheetIsBad() {
        for (int n : new int[] {0, 3, 60, 61, -1, LEAST}) {
            for (int s : NO_SHEETS) {
                refused("sheet(" + s + ", 0, " + n + ")", Scenes::busy, x -> x.sheet(s, 0, n), BAD);
            }
            for (int form : NO_FORMS) {
                refused("sheet(0, " + form + ", " + n + ")", Scenes::busy, x -> x.sheet(0, form, n), BAD);
            }
            refused("sheet(4, 3, " + n + ")", Scenes::busy, x -> x.sheet(4, 3, n), BAD);
        }
        for (int form = 0; form < 3; form++) {
            int of = form;
            refused("sheet(1, " + form + ", 61)", Scenes::busy, x -> x.sheet(1, of, 61), BAD);
            refused("sheet(3, " + form + ", 61)", Scenes::busy, x -> x.sheet(3, of, 61), BAD);
            refused("sheet(2, " + form + ", greatest)", Scenes::busy, x -> x.sheet(2, of, GREATEST), BAD);
        }
    }

    /** "5 SIZE: below 0" */
    private static void sheetIsOfASizeBelow0() {
        for (int s = 0; s < 4; s++) {
            int which = s;
            for (int n : new int[] {-1, LEAST}) {
                found("sheet(" + s + ", 2, " + n + ")", Scenes::busy, x -> x.sheet(which, 2, n), SIZE);
            }
        }
        AgeFerry x = Scenes.busy();
        x.lose(3);
        Check.due("sheet(0, 0, -1) behind NULL", x.sheet(0, 0, -1), -15);
        Check.due("count(8)", x.count(8), SIZE);
    }

    private static void loseIsRefused() {
        for (int s : NO_SHEETS) {
            refused("lose(" + s + ")", Scenes::busy, x -> x.lose(s), BAD);
        }
        found("lose(3), LOST", Scenes::busy, x -> x.lose(3), NULL);
        found("lose(0), LOST by lose", Scenes::allLost, x -> x.lose(0), NULL);
    }

    // ---- promises 28, 29: items

    private static void items() {
        layIsBad();
        layIsRefusedByFindings();
        getIsBad();
        getIsRefusedByFindings();
    }

    /** BAD stands ahead of NULL (SHEET 3 is LOST), CAST and INDEX. */
    private static void layIsBad() {
        for (int i : new int[] {0, -1, 60}) {
            for (int s : NO_SHEETS) {
                refused("lay(" + s + ", 0, " + i + ", 5)", Scenes::busy, x -> x.lay(s, 0, i, 5), BAD);
                refused("lay(" + s + ", 3, " + i + ", 5)", Scenes::busy, x -> x.lay(s, 3, i, 5), BAD);
            }
            for (int form : NO_FORMS) {
                refused("lay(0, " + form + ", " + i + ", 5)", Scenes::busy, x -> x.lay(0, form, i, 5), BAD);
                refused("lay(3, " + form + ", " + i + ", 5)", Scenes::busy, x -> x.lay(3, form, i, 5), BAD);
            }
        }
    }

    /** NULL ahead of CAST and INDEX, CAST ahead of INDEX. */
    private static void layIsRefusedByFindings() {
        for (int form = 0; form < 3; form++) {
            int of = form;
            for (int i : new int[] {0, -1, 60}) {
                found("lay(3, " + form + ", " + i + ", 5), NULL", Scenes::busy, x -> x.lay(3, of, i, 5), NULL);
            }
            for (int s = 0; s < 3; s++) {
                int which = s;
                int length = 5 + s;
                boolean other = s != form;
                for (int i : new int[] {-1, length, 60, LEAST, GREATEST}) {
                    found("lay(" + s + ", " + form + ", " + i + ", 5)", Scenes::busy, x -> x.lay(which, of, i, 5),
                        other ? CAST : INDEX);
                }
                if (other) {
                    found("lay(" + s + ", " + form + ", 0, 5)", Scenes::busy, x -> x.lay(which, of, 0, 5), CAST);
                }
            }
        }
    }

    /** "BAD: the least int"; it is no FINDING. */
    private static void getIsBad() {
        for (int i : new int[] {0, -1, 60}) {
            for (int s : NO_SHEETS) {
                refused("get(" + s + ", 0, " + i + ")", Scenes::busy, x -> x.get(s, 0, i), LEAST);
                refused("get(" + s + ", 3, " + i + ")", Scenes::busy, x -> x.get(s, 3, i), LEAST);
            }
            for (int form : NO_FORMS) {
                refused("get(0, " + form + ", " + i + ")", Scenes::busy, x -> x.get(0, form, i), LEAST);
                refused("get(3, " + form + ", " + i + ")", Scenes::busy, x -> x.get(3, form, i), LEAST);
            }
        }
    }

    /** "so are NULL, CAST, INDEX (count() 8 tells)": in this order. */
    private static void getIsRefusedByFindings() {
        for (int form = 0; form < 3; form++) {
            int of = form;
            for (int i : new int[] {0, -1, 60}) {
                Asked.found("get(3, " + form + ", " + i + ")", Scenes::busy, x -> x.get(3, of, i), LEAST, NULL);
            }
            for (int s = 0; s < 3; s++) {
                int which = s;
                int length = 5 + s;
                boolean other = s != form;
                for (int i : new int[] {-1, length, 60, LEAST, GREATEST}) {
                    Asked.found("get(" + s + ", " + form + ", " + i + ")", Scenes::busy, x -> x.get(which, of, i), LEAST,
                        other ? CAST : INDEX);
                }
                if (other) {
                    Asked.found("get(" + s + ", " + form + ", 0)", Scenes::busy, x -> x.get(which, of, 0), LEAST, CAST);
                }
            }
        }
    }

    // ---- promise 30: copy

    private static void copies() {
        copyIsBad();
        copyIsFromOrToALostOne();
        copyIsOfUnlikeForms();
        copyIsOutsideOfASheet();
    }

    /** "BAD: the SHEETS": ahead of NULL, STORE and INDEX. */
    private static void copyIsBad() {
        for (int bad : NO_SHEETS) {
            for (int s = 0; s < 4; s++) {
                int which = s;
                refused("copy(" + bad + ", 0, " + s + ", 0, 1)", Scenes::busy, x -> x.copy(bad, 0, which, 0, 1), BAD);
                refused("copy(" + s + ", 0, " + bad + ", 0, 1)", Scenes::busy, x -> x.copy(which, 0, bad, 0, 1), BAD);
                refused("copy(" + s + ", -1, " + bad + ", 0, 1)", Scenes::busy, x -> x.copy(which, -1, bad, 0, 1), BAD);
                refused("copy(" + bad + ", 0, " + s + ", 0, -1)", Scenes::busy, x -> x.copy(bad, 0, which, 0, -1), BAD);
            }
            refused("copy(" + bad + ", 0, " + bad + ", 0, 1)", Scenes::busy, x -> x.copy(bad, 0, bad, 0, 1), BAD);
        }
    }

    /** "NULL: s, t": ahead of STORE and INDEX. */
    private static void copyIsFromOrToALostOne() {
        for (int s = 0; s < 4; s++) {
            int which = s;
            for (int n : new int[] {0, 1, -1, 61}) {
                found("copy(3, 0, " + s + ", 0, " + n + ")", Scenes::busy, x -> x.copy(3, 0, which, 0, n), NULL);
                found("copy(" + s + ", 0, 3, 0, " + n + ")", Scenes::busy, x -> x.copy(which, 0, 3, 0, n), NULL);
            }
            found("copy(" + s + ", -1, 3, 0, 1)", Scenes::busy, x -> x.copy(which, -1, 3, 0, 1), NULL);
            found("copy(3, 0, " + s + ", -1, 1)", Scenes::busy, x -> x.copy(3, 0, which, -1, 1), NULL);
        }
    }

    /** "4 STORE: unlike FORMS": ahead of INDEX. */
    private static void copyIsOfUnlikeForms() {
        for (int s = 0; s < 3; s++) {
            for (int t = 0; t < 3; t++) {
                if (s != t) {
                    int from = s;
                    int to = t;
                    String call = "copy(" + s + ", .., " + t + ", ..)";
                    found(call, Scenes::busy, x -> x.copy(from, 0, to, 0, 1), STORE);
                    found(call + " of nothing", Scenes::busy, x -> x.copy(from, 0, to, 0, 0), STORE);
                    found(call + ", i below 0", Scenes::busy, x -> x.copy(from, -1, to, 0, 1), STORE);
                    found(call + ", j behind the end", Scenes::busy, x -> x.copy(from, 0, to, 60, 1), STORE);
                    found(call + ", n below 0", Scenes::busy, x -> x.copy(from, 0, to, 0, -1), STORE);
                }
            }
        }
    }

    /** SHEET 3 has the FORM of SHEET 0: five items there, three here. */
    private static AgeFerry twoOfAForm() {
        AgeFerry x = Scenes.busy();
        x.sheet(3, 0, 3);
        x.lay(3, 0, 0, 71);
        x.lay(3, 0, 1, 72);
        x.lay(3, 0, 2, 73);
        return x;
    }

    /** "INDEX: below 0, not so many (with n 0, too, if i or j is above how many there are)" */
    private static void copyIsOutsideOfASheet() {
        int[][] wrong = {
            {-1, 0, 1}, {0, -1, 1}, {0, 0, -1}, {-1, 0, 0}, {0, -1, 0}, {-1, -1, -1},
            {0, 0, 4}, {3, 0, 3}, {5, 0, 1}, {0, 1, 3}, {0, 3, 1}, {4, 0, 2},
            {6, 0, 0}, {0, 4, 0}, {6, 4, 0}, {60, 0, 0}, {0, 60, 0}, {61, 0, 0},
            {GREATEST, 0, 1}, {0, GREATEST, 1}, {1, 0, GREATEST}, {GREATEST, 0, GREATEST}, {0, GREATEST, GREATEST},
            {LEAST, 0, 1}, {0, LEAST, 1}, {0, 0, LEAST}, {LEAST, LEAST, LEAST}, {LEAST, 0, LEAST}, {0, LEAST, LEAST},
            {6, 0, -1}, {0, 4, -1}, {LEAST, 0, GREATEST}};
        for (int[] w : wrong) {
            found("copy(0, " + w[0] + ", 3, " + w[1] + ", " + w[2] + ")", RefusalsTest::twoOfAForm,
                x -> x.copy(0, w[0], 3, w[1], w[2]), INDEX);
        }
        int[][] within = {{0, 0, 6}, {1, 0, 5}, {0, 1, 5}, {5, 0, 1}, {0, 5, 1}, {6, 0, 0}, {0, 6, 0}, {-1, 0, 1}, {0, -1, 1}};
        for (int[] w : within) {
            found("copy(0, " + w[0] + ", 0, " + w[1] + ", " + w[2] + ")", Scenes::busy,
                x -> x.copy(0, w[0], 0, w[1], w[2]), INDEX);
        }
    }

    // ---- promise 31: write

    /** BAD and NULL stand ahead of NOT. */
    private static void written() {
        for (int s : NO_SHEETS) {
            refused("write(" + s + ")", Scenes::busy, x -> x.write(s), BAD);
            refused("write(" + s + "), NOT too", Scenes::stuck, x -> x.write(s), BAD);
        }
        found("write(3), LOST", Scenes::busy, x -> x.write(3), NULL);
        found("write(3) of nobody, LOST", Scenes::nobody, x -> x.write(3), NULL);
        found("write(3), NULL ahead of NOT", Scenes::stuck, x -> x.write(3), NULL);
        for (int s = 0; s < 3; s++) {
            int which = s;
            refused("write(" + s + "), NOT", Scenes::stuck, x -> x.write(which), NOT);
        }
        refused("write of no items, NOT", RefusalsTest::stuckWithoutItems, x -> x.write(3), NOT);
    }

    private static AgeFerry stuckWithoutItems() {
        AgeFerry x = Scenes.stuck();
        x.sheet(3, 0, 0);
        return x;
    }
}
