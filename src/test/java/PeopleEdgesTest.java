import java.util.Arrays;
import java.util.List;

/** The bounds of promises 1 to 10: each method is for one sentence of the document. */
public final class PeopleEdgesTest {
    private static final int NONE = AgeFerry.NONE, BAD = AgeFerry.BAD, FULL = AgeFerry.FULL;
    private static final int LEAST = Integer.MIN_VALUE;
    /** Ten AGES in 19 bytes. */
    private static final String TEN = "1;2;3;4;5;6;7;8;9;1";
    /** The longest text that is well: 39 bytes. */
    private static final String LONGEST = "120;120;120;120;120;120;120;120;120;120";

    public static void main(String[] args) {
        nobodyAtFirst();
        allSheetsAreLostAtFirst();
        allNumbersAtFirst();
        noPairsAtFirst();
        digestAtFirst();
        eachObjectHasItsOwn();
        upToThe512thCall();
        aByteIsFrom0To255();
        theFortiethByteIsTheLast();
        bytesComeBehindAFault();
        wipeTellsHowManyBytes();
        wipeLeavesAllElse();
        anEmptyTextIsWell();
        anAgeHasOneToThreeFigures();
        anAgeIsFrom0To120();
        aFourthFigureCannotStand();
        whatMayStandAtEachPlace();
        aTextThatIsNotEnded();
        theFaultIsTheFirstOne();
        tenAgesAtMost();
        withAFaultThereIsNobody();
        aFaultCanBeMended();
        personFrom0On();
        toldIsAgeAndLie();
        eachNumberHasItsOwn();
        weightsAndHoursFrom0To99();
        liesFromMinus30To30();
        numbersThereOrNot();
        readAsLongAsEachMayBe();
        readTenAtMost();
        readOfNoItems();
        readOfEachForm();
        lawsOfEachBound();
        pairsOfAllNumbers();
        aPairIsOneBothWays();
        theSameTwoCanBeBoth();
        Check.end("PeopleEdgesTest");
    }

    // ---- promise 1: a new object

    /** "Nobody" */
    private static void nobodyAtFirst() {
        AgeFerry x = new AgeFerry();
        for (int what = 0; what <= 8; what++) {
            Check.due("new: count(" + what + ")", x.count(what), what == 7 ? 2 : 0);
        }
        Check.due("new: fault()", x.fault(), NONE);
        for (int what = 0; what < 3; what++) {
            Check.due("new: day(0, " + what + ")", x.day(0, what), 0);
            Check.due("new: day(1, " + what + ")", x.day(1, what), BAD);
        }
        Check.due("new: person(0, 0)", x.person(0, 0), BAD);
        Check.due("new: with(0)", x.with(0), BAD);
        Check.due("new: odd()", x.odd(), NONE);
        Check.due("new: back()", x.back(), 0);
        Check.due("new: lot(0)", x.lot(0), 0);
        Check.due("new: wipe()", x.wipe(), 0);
        Check.due("new: forget()", x.forget(), 0);
        Check.due("new: type(53)", x.type(53), 1);
        Check.due("new: count(0) behind it", x.count(0), 1);
    }

    /** "all SHEETS are LOST" */
    private static void allSheetsAreLostAtFirst() {
        for (int s = 0; s < 4; s++) {
            for (int form = 0; form < 3; form++) {
                AgeFerry x = new AgeFerry();
                Check.due("new: get(" + s + ", " + form + ", 0)", x.get(s, form, 0), LEAST);
                Check.due("new: count(8) behind it", x.count(8), 1);
                Check.due("new: lay(" + s + ", " + form + ", 0, 1)", x.lay(s, form, 0, 1), -11);
            }
            AgeFerry x = new AgeFerry();
            Check.due("new: read(" + s + ")", x.read(s), -11);
            Check.due("new: judged(" + s + ")", x.judged(s), -11);
            Check.due("new: costs(" + s + ")", x.costs(s), -11);
            Check.due("new: rather(" + s + ")", x.rather(s), -11);
            Check.due("new: write(" + s + ")", x.write(s), -11);
            Check.due("new: copy(" + s + ", 0, " + s + ", 0, 0)", x.copy(s, 0, s, 0, 0), -11);
            Check.due("new: lose(" + s + ")", x.lose(s), -11);
        }
    }

    /** "50 at first", "0 at first", "2 at first" */
    private static void allNumbersAtFirst() {
        AgeFerry x = new AgeFerry();
        for (int number = 0; number < 10; number++) {
            Check.due("new: WEIGHT of " + number, x.put(number, 0, 99), 50);
            Check.due("new: HOUR of " + number, x.put(number, 1, 99), 0);
            Check.due("new: LIE of " + number, x.lie(number, 30), 0);
        }
        Check.due("new: SIZE", x.set(0, 4), 2);
        Check.due("new: LAW", x.set(1, 2), 0);
        Check.due("new: ALONE", x.set(2, 99), 0);
        Check.due("new: WAIT", x.set(3, 9), 0);
    }

    /** "(none at first ..)" */
    private static void noPairsAtFirst() {
        AgeFerry x = new AgeFerry();
        for (int a = 0; a < 10; a++) {
            for (int b = 0; b < 10; b++) {
                if (a != b) {
                    Check.due("new: WONT " + a + " " + b, x.pair(0, a, b, 0), 0);
                    Check.due("new: MUST " + a + " " + b, x.pair(1, a, b, 0), 0);
                }
            }
        }
    }

    /** Of nobody: counts, the FAULT, the day of all, ODD, BACK, the DAY by 7. */
    private static void digestAtFirst() {
        long h = 17;
        for (int told : new int[] {0, 0, 0, 0, 0, 0, 0, 2, -1, 0, 0, 0, -1, 0, 0}) {
            h = 31 * h + told;
        }
        Check.due("new: digest()", new AgeFerry().digest(), h);
    }

    /** What one is told another does not know. */
    private static void eachObjectHasItsOwn() {
        AgeFerry other = new AgeFerry();
        List<String> want = State.of(new AgeFerry());
        AgeFerry x = Scenes.ten();
        x.digest();
        x.lose(3);
        Check.due("count(8) of another", other.count(8), 0);
        List<String> got = State.of(other);
        for (int i = 0; i < want.size(); i++) {
            Check.same("of another: ", got.get(i), want.get(i));
        }
        AgeFerry one = Check.ferry("5;6");
        AgeFerry two = Check.ferry("7;8");
        Check.type(one, ";9");
        Check.due("count(2) of one", one.count(2), 20);
        Check.due("count(2) of two", two.count(2), 15);
    }

    /** "An object is used for at most 512 calls" */
    private static void upToThe512thCall() {
        AgeFerry x = new AgeFerry();
        for (int call = 1; call <= 508; call++) {
            x.sheet(3, 2, 60);
        }
        Check.due("call 509", x.type('5'), 1);
        Check.due("call 510", x.set(2, 7), 0);
        Check.due("call 511", x.back(), 14);
        Check.due("call 512", x.digest(), Check.ferry("5", 2, 7).digest());
    }

    // ---- promises 2 and 3: the text

    /** "A byte (0 to 255)" */
    private static void aByteIsFrom0To255() {
        AgeFerry x = new AgeFerry();
        Check.due("type(0)", x.type(0), 1);
        Check.due("type(255)", x.type(255), 2);
        Check.due("type(-1)", x.type(-1), BAD);
        Check.due("type(256)", x.type(256), BAD);
        Check.due("type(256 + 48)", x.type(256 + 48), BAD);
        Check.due("count(1)", x.count(1), 2);
    }

    /** "a text of up to 40 bytes" */
    private static void theFortiethByteIsTheLast() {
        AgeFerry x = Check.ferry(LONGEST);
        Check.due("count(1) of the longest", x.count(1), 39);
        Check.due("count(0) of the longest", x.count(0), 10);
        Check.due("count(2) of the longest", x.count(2), 1200);
        Check.due("byte 40", x.type('x'), 40);
        Check.due("fault() at byte 40", x.fault(), 39);
        Check.due("byte 41", x.type('x'), FULL);
        Check.due("byte 42", x.type('5'), FULL);
        Check.due("count(1) behind FULL", x.count(1), 40);
        Check.due("fault() behind FULL", x.fault(), 39);
        Check.due("wipe()", x.wipe(), 40);
        Check.due("byte 1 behind wipe", x.type('5'), 1);
    }

    /** A byte with which PEOPLE cannot go on comes behind them too. */
    private static void bytesComeBehindAFault() {
        AgeFerry x = Check.ferry("5x");
        for (int many = 3; many <= 40; many++) {
            Check.due("byte " + many + " behind a FAULT", x.type(many % 2 == 0 ? ';' : '5'), many);
            Check.due("fault() stays", x.fault(), 1);
        }
    }

    /** "PEOPLE are empty: how many bytes they had." */
    private static void wipeTellsHowManyBytes() {
        AgeFerry x = new AgeFerry();
        Check.due("wipe() of no bytes", x.wipe(), 0);
        for (int many = 1; many <= 40; many++) {
            x = new AgeFerry();
            Check.type(x, "5".repeat(many));
            Check.due("wipe() of " + many + " bytes", x.wipe(), many);
            Check.due("count(1)", x.count(1), 0);
            Check.due("count(0)", x.count(0), 0);
            Check.due("count(2)", x.count(2), 0);
            Check.due("fault()", x.fault(), NONE);
            Check.due("wipe() again", x.wipe(), 0);
        }
    }

    /** What numbers have, laws, pairs, what was SEEN and SHEETS are not of the text. */
    private static void wipeLeavesAllElse() {
        AgeFerry x = Scenes.busy();
        x.wipe();
        Check.type(x, "10;34;31;40");
        List<String> got = State.of(x);
        List<String> want = State.of(Scenes.busy());
        for (int i = 0; i < want.size(); i++) {
            Check.same("behind wipe: ", got.get(i), want.get(i));
        }
    }

    // ---- promise 4: the FAULT

    private static void dueFault(String text, int want) {
        Check.due("fault() of " + text, Check.ferry(text).fault(), want);
    }

    /** "an empty text is well" */
    private static void anEmptyTextIsWell() {
        dueFault("", NONE);
        AgeFerry x = Check.ferry("x");
        x.wipe();
        Check.due("fault() of a wiped text", x.fault(), NONE);
        Check.due("count(0) of a wiped text", x.count(0), 0);
    }

    /** "one to three figures" */
    private static void anAgeHasOneToThreeFigures() {
        for (String age : new String[] {"0", "7", "00", "07", "70", "000", "007", "070", "100"}) {
            AgeFerry x = Check.ferry(age);
            Check.due("fault() of " + age, x.fault(), NONE);
            Check.due("AGE of " + age, x.person(0, 0), Integer.parseInt(age));
            AgeFerry y = Check.ferry("5;" + age + ";6");
            Check.due("fault() of 5;" + age + ";6", y.fault(), NONE);
            Check.due("AGE of 5;" + age + ";6", y.person(1, 0), Integer.parseInt(age));
            Check.due("AGE behind it", y.person(2, 0), 6);
        }
    }

    /** "AGES (.. 0 to 120)", "of the first figure of an AGE above 120" */
    private static void anAgeIsFrom0To120() {
        for (int age = 0; age <= 999; age++) {
            boolean well = age <= 120;
            AgeFerry x = Check.ferry(String.valueOf(age));
            Check.due("fault() of " + age, x.fault(), well ? NONE : 0);
            Check.due("count(2) of " + age, x.count(2), well ? age : 0);
        }
        for (int place = 0; place < 10; place++) {
            String ahead = "5;".repeat(place);
            dueFault(ahead + "120", NONE);
            dueFault(ahead + "121", 2 * place);
            dueFault(ahead + "200", 2 * place);
            dueFault(ahead + "121;5", 2 * place);
        }
    }

    /** Of three figures: the fourth is "the first byte with which it cannot go on". */
    private static void aFourthFigureCannotStand() {
        dueFault("0000", 3);
        dueFault("0120", 3);
        dueFault("1200", 3);
        dueFault("00000", 3);
        dueFault("5;0000", 5);
        dueFault("5;1200;6", 5);
    }

    /** Each byte behind nothing, behind one, two and three figures, and behind a ; */
    private static void whatMayStandAtEachPlace() {
        for (int b = 0; b <= 255; b++) {
            String one = String.valueOf((char) b);
            boolean figure = b >= '0' && b <= '9';
            dueFault(one, figure ? NONE : 0);
            dueFault("5" + one, figure ? NONE : b == ';' ? 2 : 1);
            dueFault("11" + one, figure ? NONE : b == ';' ? 3 : 2);
            dueFault("12" + one, b == '0' ? NONE : figure ? 0 : b == ';' ? 3 : 2);
            dueFault("120" + one, b == ';' ? 4 : 3);
            dueFault("5;" + one, figure ? NONE : 2);
            dueFault("5;6" + one, figure ? NONE : b == ';' ? 4 : 3);
        }
    }

    /** "of one that is not ended, as behind a ;, its end" */
    private static void aTextThatIsNotEnded() {
        String text = "";
        for (int many = 1; many <= 10; many++) {
            text += "5;";
            dueFault(text, 2 * many);
        }
        dueFault("120;", 4);
        dueFault(LONGEST + ";", 40);
        dueFault(";", 0);
        dueFault("5;;", 2);
    }

    /** A text can be wrong at more than one place: the least one counts, that of an AGE above 120 too. */
    private static void theFaultIsTheFirstOne() {
        dueFault("1211", 0);
        dueFault("5;9999", 2);
        dueFault("5;x;121", 2);
        dueFault("5;121;x", 2);
        dueFault("121;x", 0);
        dueFault("5x;", 1);
        dueFault("5;6;200;;", 4);
        dueFault(TEN + ";x", 20);
        dueFault("121;" + TEN, 0);
        dueFault("1;2;3;4;5;6;7;8;9;121;5", 18);
    }

    /** "10 at most", "of the first byte of an eleventh" */
    private static void tenAgesAtMost() {
        String text = "5";
        for (int many = 1; many <= 10; many++) {
            AgeFerry x = Check.ferry(text);
            Check.due("fault() of " + many, x.fault(), NONE);
            Check.due("count(0) of " + many, x.count(0), many);
            Check.due("last of " + many, x.person(many - 1, 0), 5);
            Check.due("behind the last of " + many, x.person(many, 0), BAD);
            text += ";5";
        }
        dueFault(TEN + ";5", 20);
        dueFault(TEN + ";", 20);
        dueFault(TEN + ";5;6;7", 20);
        dueFault(TEN + ";121", 20);
        dueFault("10;" + TEN, 21);
        dueFault("1;2;3;4;5;6;7;8;9;120;0", 22);
        dueFault("1;2;3;4;5;6;7;8;9;120;007", 22);
    }

    /** "With a FAULT there is nobody." */
    private static void withAFaultThereIsNobody() {
        for (String text : new String[] {"10;20;", "10;20x", "10;121", "10;1200", ";10", TEN + ";5"}) {
            AgeFerry x = Check.ferry(text);
            x.lie(0, 5);
            x.set(2, 9);
            Check.due("count(0) of " + text, x.count(0), 0);
            Check.due("count(1) of " + text, x.count(1), text.length());
            Check.due("count(2) of " + text, x.count(2), 0);
            Check.due("count(3) of " + text, x.count(3), 0);
            Check.due("person(0, 0) of " + text, x.person(0, 0), BAD);
            Check.due("boat(1, 0) of " + text, x.boat(1, 0), BAD);
            Check.due("day(0, 0) of " + text, x.day(0, 0), 0);
            Check.due("day(1, 0) of " + text, x.day(1, 0), BAD);
            Check.due("with(0) of " + text, x.with(0), BAD);
            Check.due("odd() of " + text, x.odd(), NONE);
            Check.due("back() of " + text, x.back(), 0);
            Check.due("lot(1) of " + text, x.lot(1), 0);
            x.sheet(0, 0, 0);
            Check.due("judged(0) of " + text, x.judged(0), NONE);
            Check.due("costs(0) of " + text, x.costs(0), 0);
            Check.due("rather(0) of " + text, x.rather(0), NONE);
            Check.due("write(0) of " + text, x.write(0), 0);
        }
    }

    /** The next byte can end what was not ended. */
    private static void aFaultCanBeMended() {
        AgeFerry x = new AgeFerry();
        int[] faults = {NONE, 2, NONE, 4, NONE};
        int[] numbers = {1, 0, 2, 0, 3};
        String text = "5;6;7";
        for (int i = 0; i < text.length(); i++) {
            x.type(text.charAt(i));
            Check.due("fault() behind byte " + i, x.fault(), faults[i]);
            Check.due("count(0) behind byte " + i, x.count(0), numbers[i]);
        }
    }

    // ---- promises 5 to 7: what one has

    /** "10 at most (0 on)" */
    private static void personFrom0On() {
        AgeFerry x = Check.ferry("0;1;2;3;4;5;6;7;8;120");
        for (int person = 0; person < 9; person++) {
            Check.due("AGE of " + person, x.person(person, 0), person);
            Check.due("TOLD of " + person, x.person(person, 1), person);
        }
        Check.due("AGE of 9", x.person(9, 0), 120);
        Check.due("person(10, 0)", x.person(10, 0), BAD);
        Check.due("person(-1, 0)", x.person(-1, 0), BAD);
        Check.due("person(9, 2)", x.person(9, 2), BAD);
        Check.due("person(9, -1)", x.person(9, -1), BAD);
    }

    private static void dueTold(int age, int lie, int told) {
        AgeFerry x = Check.ferry(age + ";" + age);
        x.lie(0, lie);
        Check.due("TOLD of " + age + " by " + lie, x.person(0, 1), told);
        Check.due("AGE of " + age + " by " + lie, x.person(0, 0), age);
        Check.due("TOLD of another", x.person(1, 1), age);
        Check.due("boat(3, 1)", x.boat(3, 1), Math.abs(told - age));
    }

    /** "TOLD is AGE and LIE, 0 at least"; there is no most. */
    private static void toldIsAgeAndLie() {
        dueTold(31, -30, 1);
        dueTold(30, -30, 0);
        dueTold(29, -30, 0);
        dueTold(0, -30, 0);
        dueTold(0, -1, 0);
        dueTold(1, -1, 0);
        dueTold(0, 30, 30);
        dueTold(90, 30, 120);
        dueTold(91, 30, 121);
        dueTold(120, 30, 150);
        dueTold(120, -30, 90);
        AgeFerry early = new AgeFerry();
        early.lie(1, -30);
        Check.type(early, "5;120");
        Check.due("TOLD by a LIE ahead of the text", early.person(1, 1), 90);
    }

    /** "Each of the numbers 0 to 9" */
    private static void eachNumberHasItsOwn() {
        AgeFerry x = new AgeFerry();
        for (int number = 0; number < 10; number++) {
            Check.due("put(" + number + ", 0, ..)", x.put(number, 0, 60 + number), 50);
            Check.due("put(" + number + ", 1, ..)", x.put(number, 1, 70 + number), 0);
            Check.due("lie(" + number + ", ..)", x.lie(number, number - 5), 0);
        }
        for (int number = 0; number < 10; number++) {
            Check.due("WEIGHT of " + number, x.put(number, 0, 0), 60 + number);
            Check.due("HOUR of " + number, x.put(number, 1, 0), 70 + number);
            Check.due("LIE of " + number, x.lie(number, 0), number - 5);
        }
    }

    /** "a WEIGHT (0 to 99 ..), an HOUR when one COMES (0 to 99 ..)" */
    private static void weightsAndHoursFrom0To99() {
        for (int what = 0; what < 2; what++) {
            AgeFerry x = new AgeFerry();
            int first = what == 0 ? 50 : 0;
            Check.due("put(3, " + what + ", 0)", x.put(3, what, 0), first);
            Check.due("put(3, " + what + ", 99)", x.put(3, what, 99), 0);
            Check.due("put(3, " + what + ", 100)", x.put(3, what, 100), BAD);
            Check.due("put(3, " + what + ", -1)", x.put(3, what, -1), BAD);
            Check.due("put(3, " + what + ", 0) behind BAD", x.put(3, what, 0), 99);
            Check.due("put(10, " + what + ", 0)", x.put(10, what, 0), BAD);
            Check.due("put(-1, " + what + ", 0)", x.put(-1, what, 0), BAD);
        }
    }

    /** "a LIE (-30 to 30 years ..)"; the answer is "as any number". */
    private static void liesFromMinus30To30() {
        AgeFerry x = new AgeFerry();
        Check.due("lie(9, -30)", x.lie(9, -30), 0);
        Check.due("lie(9, -31)", x.lie(9, -31), -1002);
        Check.due("lie(9, 30)", x.lie(9, 30), -30);
        Check.due("lie(9, 31)", x.lie(9, 31), -1002);
        Check.due("lie(9, -2)", x.lie(9, -2), 30);
        Check.due("lie(9, -1), what was -2", x.lie(9, -1), -2);
        Check.due("lie(9, 0), what was -1", x.lie(9, 0), -1);
        Check.due("lie(10, 0)", x.lie(10, 0), -1002);
        Check.due("lie(-1, 0)", x.lie(-1, 0), -1002);
    }

    /** "Each of the numbers 0 to 9, there or not" */
    private static void numbersThereOrNot() {
        AgeFerry x = new AgeFerry();
        x.put(1, 0, 0);
        x.put(1, 1, 9);
        x.lie(1, 30);
        x.set(1, 2);
        x.set(3, 1);
        Check.type(x, "10;20");
        Check.due("boat(3, 1) of the two", x.boat(3, 1), 40 + 50);
        Check.due("boat(3, 0) of the two", x.boat(3, 0), 40 + 50 + 9);
        x.wipe();
        Check.due("WEIGHT when nobody is there", x.put(1, 0, 7), 0);
        Check.due("HOUR when nobody is there", x.put(1, 1, 7), 9);
        Check.due("LIE when nobody is there", x.lie(1, 7), 30);
    }

    // ---- promise 8: read

    /** "item by item, as long as each may be" */
    private static void readAsLongAsEachMayBe() {
        for (int wrong : new int[] {-1, 100, LEAST, Integer.MAX_VALUE}) {
            for (int place = 0; place < 5; place++) {
                AgeFerry x = new AgeFerry();
                int[] items = {0, 99, 1, 98, 2};
                items[place] = wrong;
                Check.sheet(x, 0, items);
                Check.due("read(0), " + wrong + " at " + place, x.read(0), place);
                for (int number = 0; number < 10; number++) {
                    Check.due("WEIGHT " + number, x.put(number, 0, 0), number < place ? items[number] : 50);
                }
            }
        }
    }

    /** "ten at most" */
    private static void readTenAtMost() {
        int[] items = {9, 8, 7, 6, 5, 4, 3, 2, 1, 0, 99};
        for (int many = 0; many <= 11; many++) {
            AgeFerry x = new AgeFerry();
            Check.sheet(x, 3, Arrays.copyOf(items, many));
            Check.due("read(3) of " + many, x.read(3), Math.min(10, many));
            for (int number = 0; number < 10; number++) {
                Check.due("WEIGHT " + number, x.put(number, 0, 0), number < many ? items[number] : 50);
            }
        }
        AgeFerry x = new AgeFerry();
        Check.sheet(x, 0, 1, 2, 3, 4, 5, 6, 7, 8, 9, 10, -1);
        Check.due("read(0), the eleventh is not asked", x.read(0), 10);
        x.sheet(0, 2, 60);
        Check.due("read(0) of 60", x.read(0), 10);
    }

    private static void readOfNoItems() {
        Asked.unchanged("read(3) of no items", PeopleEdgesTest::withEmptySheet, y -> y.read(3), 0);
        Asked.unchanged("read(3), the first may not be", PeopleEdgesTest::withWrongSheet, y -> y.read(3), 0);
    }

    private static AgeFerry withEmptySheet() {
        AgeFerry x = Scenes.busy();
        x.sheet(3, 1, 0);
        return x;
    }

    private static AgeFerry withWrongSheet() {
        AgeFerry x = Scenes.busy();
        Check.sheet(x, 3, 100, 5, 5);
        return x;
    }

    /** Items are told with their sign: 200 in a byte is below 0. */
    private static void readOfEachForm() {
        for (int form = 0; form < 3; form++) {
            AgeFerry x = new AgeFerry();
            x.sheet(form, form, 3);
            x.lay(form, form, 0, 99);
            x.lay(form, form, 1, form == 0 ? 256 + 98 : form == 1 ? 65536 + 98 : 98);
            x.lay(form, form, 2, form == 0 ? 200 : form == 1 ? 40000 : -5);
            Check.due("read(" + form + ")", x.read(form), 2);
            Check.due("WEIGHT 0", x.put(0, 0, 0), 99);
            Check.due("WEIGHT 1", x.put(1, 0, 0), 98);
            Check.due("WEIGHT 2", x.put(2, 0, 0), 50);
        }
    }

    // ---- promises 9 and 10: laws and pairs

    private static void dueLaw(int what, int first, int least, int greatest) {
        AgeFerry x = new AgeFerry();
        int was = first;
        for (int v = least; v <= greatest; v++) {
            Check.due("set(" + what + ", " + v + ")", x.set(what, v), was);
            was = v;
        }
        Check.due("set(" + what + ", " + (greatest + 1) + ")", x.set(what, greatest + 1), BAD);
        Check.due("set(" + what + ", " + (least - 1) + ")", x.set(what, least - 1), BAD);
        Check.due("set(" + what + ", " + least + ")", x.set(what, least), greatest);
    }

    /** "SIZE (1 to 4; 2 at first)", "LAW (0 to 2; 0 at first)", "ALONE (0 to 99; 0 ..)", "WAIT (0 to 9; 0 ..)" */
    private static void lawsOfEachBound() {
        dueLaw(0, 2, 1, 4);
        dueLaw(1, 0, 0, 2);
        dueLaw(2, 0, 0, 99);
        dueLaw(3, 0, 0, 9);
        Check.due("set(-1, 1)", new AgeFerry().set(-1, 1), BAD);
        Check.due("set(4, 1)", new AgeFerry().set(4, 1), BAD);
    }

    /** "pairs of numbers 0 to 9": 45 of them, the fewest 0. */
    private static void pairsOfAllNumbers() {
        for (int kind = 0; kind < 2; kind++) {
            AgeFerry x = new AgeFerry();
            int many = 0;
            for (int a = 0; a < 10; a++) {
                for (int b = a + 1; b < 10; b++) {
                    Check.due("pair(" + kind + ", " + a + ", " + b + ", 1)", x.pair(kind, a, b, 1), 0);
                    many++;
                    Check.due("count(" + (4 + kind) + ")", x.count(4 + kind), many);
                    Check.due("count of the others", x.count(5 - kind), 0);
                }
            }
            for (int a = 0; a < 10; a++) {
                for (int b = a + 1; b < 10; b++) {
                    Check.due("pair(" + kind + ", " + b + ", " + a + ", 0)", x.pair(kind, b, a, 0), 1);
                    many--;
                    Check.due("count(" + (4 + kind) + ")", x.count(4 + kind), many);
                }
            }
        }
    }

    /** "Two numbers .. are so (1), or not (0): what it was." */
    private static void aPairIsOneBothWays() {
        for (int kind = 0; kind < 2; kind++) {
            AgeFerry x = new AgeFerry();
            Check.due("0 9 become so", x.pair(kind, 0, 9, 1), 0);
            Check.due("9 0 are so", x.pair(kind, 9, 0, 1), 1);
            Check.due("once", x.count(4 + kind), 1);
            Check.due("0 8 are not", x.pair(kind, 0, 8, 0), 0);
            Check.due("1 9 are not", x.pair(kind, 1, 9, 0), 0);
            Check.due("9 0 become not so", x.pair(kind, 9, 0, 0), 1);
            Check.due("0 9 are not so", x.pair(kind, 0, 9, 0), 0);
            Check.due("none", x.count(4 + kind), 0);
        }
    }

    /** "the same two can be both" */
    private static void theSameTwoCanBeBoth() {
        AgeFerry x = Check.ferry("5;6;7");
        Check.due("WONT", x.pair(0, 0, 1, 1), 0);
        Check.due("MUST", x.pair(1, 0, 1, 1), 0);
        Check.due("count(4)", x.count(4), 1);
        Check.due("count(5)", x.count(5), 1);
        Check.due("no DAY of both", x.day(3, 0), NONE);
        Check.due("a DAY of one", x.day(5, 0), 0);
        Check.due("WONT no more", x.pair(0, 0, 1, 0), 1);
        Check.due("MUST still", x.pair(1, 0, 1, 1), 1);
        Check.due("a DAY of both", x.day(3, 0), 1);
    }
}
