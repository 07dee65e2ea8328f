import java.util.Arrays;

/** The bounds of promises 26 to 33: each method is for one sentence of the document. */
public final class SheetsEdgesTest {
    private static final int NONE = AgeFerry.NONE, BAD = AgeFerry.BAD, NOT = AgeFerry.NOT;
    private static final int LEAST = Integer.MIN_VALUE, GREATEST = Integer.MAX_VALUE;
    private static final int[] LEAST_OF = {-128, -32768, LEAST};
    private static final int[] GREATEST_OF = {127, 32767, GREATEST};

    public static void main(String[] args) {
        sheetsFrom0To3();
        formsFrom0To2();
        from0To60Items();
        aNewRowIsOf0();
        aSizeBelow0IsAFinding();
        loseHowManyItems();
        loseOneOfFour();
        itemsFromFirstToLast();
        theLowestBitsWithTheirSign();
        allByteItems();
        getOfTheLeastInt();
        treatedAsOfAForm();
        copyToTheEnds();
        copyOfNothing();
        copyOfAll();
        copyWithinOneAsTheyWere();
        copyOfEachForm();
        writeAsManyAsThereAre();
        writeNumbersFrom0To9();
        writeAsTheLeastNumbersGo();
        writeByEachForm();
        writeOfNobody();
        writeOfNoDay();
        countOfPeopleAndBytes();
        countOfLiesThatAreThere();
        countOfPairsAndSeen();
        countOfSize();
        countOfTheLatestFinding();
        digestOfOne();
        digestOfSeven();
        digestOfNineWhoAreStuck();
        digestAsAllIsTold();
        digestOfNoSheets();
        askingChangesNothing();
        Check.end("SheetsEdgesTest");
    }

    // ---- promises 26 and 27: sheet, lose

    /** "SHEETS 0 .. 3" */
    private static void sheetsFrom0To3() {
        AgeFerry x = new AgeFerry();
        Check.due("sheet(-1, 0, 1)", x.sheet(-1, 0, 1), BAD);
        Check.due("sheet(4, 0, 1)", x.sheet(4, 0, 1), BAD);
        for (int s = 0; s < 4; s++) {
            Check.due("sheet(" + s + ", 2, ..)", x.sheet(s, 2, 10 + s), 10 + s);
            Check.due("lay(" + s + ", ..)", x.lay(s, 2, 9 + s, 100 + s), 1);
        }
        for (int s = 0; s < 4; s++) {
            Check.due("get(" + s + ", ..)", x.get(s, 2, 9 + s), 100 + s);
            Check.due("lose(" + s + ")", x.lose(s), 10 + s);
        }
        Check.due("lose(-1)", x.lose(-1), BAD);
        Check.due("lose(4)", x.lose(4), BAD);
    }

    /** "a FORM: 0 bytes, 1 shorts, 2 ints" */
    private static void formsFrom0To2() {
        AgeFerry x = new AgeFerry();
        Check.due("sheet(0, -1, 1)", x.sheet(0, -1, 1), BAD);
        Check.due("sheet(0, 3, 1)", x.sheet(0, 3, 1), BAD);
        int v = 0x12345678;
        int[] due = {0x78, 0x5678, v};
        for (int form = 0; form < 3; form++) {
            Check.due("sheet(0, " + form + ", 1)", x.sheet(0, form, 1), 1);
            Check.due("lay(0, " + form + ", 0, v)", x.lay(0, form, 0, v), 1);
            Check.due("get(0, " + form + ", 0)", x.get(0, form, 0), due[form]);
        }
    }

    /** "of 0 to 60 items" */
    private static void from0To60Items() {
        for (int form = 0; form < 3; form++) {
            AgeFerry x = new AgeFerry();
            for (int n = 0; n <= 60; n++) {
                Check.due("sheet(1, " + form + ", " + n + ")", x.sheet(1, form, n), n);
                Check.due("item " + n + " is not there", x.lay(1, form, n, 7), -12);
                if (n > 0) {
                    Check.due("item " + (n - 1) + " is there", x.lay(1, form, n - 1, 7), 1);
                }
            }
            Check.due("sheet(1, " + form + ", 61)", x.sheet(1, form, 61), BAD);
            Check.due("sheet(1, " + form + ", greatest)", x.sheet(1, form, GREATEST), BAD);
            Check.due("item 59 behind BAD", x.get(1, form, 59), 7);
            Check.due("lose(1)", x.lose(1), 60);
        }
    }

    /** "(0 at first)"; "A SHEET is a new row": of what was on it nothing stays. */
    private static void aNewRowIsOf0() {
        for (int form = 0; form < 3; form++) {
            AgeFerry x = new AgeFerry();
            x.sheet(3, 2, 60);
            for (int i = 0; i < 60; i++) {
                x.lay(3, 2, i, i + 1);
            }
            x.sheet(3, form, 30);
            for (int i = 0; i < 30; i++) {
                Check.due("item " + i + " of a new row", x.get(3, form, i), 0);
            }
            x.sheet(3, form, 60);
            for (int i = 0; i < 60; i++) {
                Check.due("item " + i + " of a longer one", x.get(3, form, i), 0);
            }
            x.lay(3, form, 59, 7);
            x.lose(3);
            x.sheet(3, form, 60);
            Check.due("item 59 of a row that was LOST", x.get(3, form, 59), 0);
        }
    }

    /** "5 SIZE: below 0": of 0 items is none. */
    private static void aSizeBelow0IsAFinding() {
        AgeFerry x = new AgeFerry();
        Check.due("sheet(0, 1, 0)", x.sheet(0, 1, 0), 0);
        Check.due("count(8)", x.count(8), 0);
        Check.due("sheet(0, 1, -1)", x.sheet(0, 1, -1), -15);
        Check.due("count(8)", x.count(8), 5);
        Check.due("sheet(1, 1, -61)", x.sheet(1, 1, -61), -15);
        Check.due("sheet(1, 1, least)", x.sheet(1, 1, LEAST), -15);
        Check.due("lose(1), LOST still", x.lose(1), -11);
        Check.due("lose(0), as it was", x.lose(0), 0);
    }

    /** "It is LOST: how many items it had." */
    private static void loseHowManyItems() {
        AgeFerry x = new AgeFerry();
        for (int n = 0; n <= 60; n++) {
            x.sheet(2, n % 3, n);
            Check.due("lose(2) of " + n, x.lose(2), n);
            Check.due("lose(2) again", x.lose(2), -11);
        }
    }

    private static void loseOneOfFour() {
        for (int lost = 0; lost < 4; lost++) {
            AgeFerry x = new AgeFerry();
            for (int s = 0; s < 4; s++) {
                Check.sheet(x, s, 40 + s);
            }
            Check.due("lose(" + lost + ")", x.lose(lost), 1);
            for (int s = 0; s < 4; s++) {
                Check.due("get(" + s + ", 2, 0)", x.get(s, 2, 0), s == lost ? LEAST : 40 + s);
                Check.due("lay(" + s + ", 2, 0, 1)", x.lay(s, 2, 0, 1), s == lost ? -11 : 1);
            }
        }
    }

    // ---- promises 28 and 29: lay, get

    /** "2 INDEX: there is no such item" */
    private static void itemsFromFirstToLast() {
        for (int n = 0; n <= 60; n += 20) {
            for (int form = 0; form < 3; form++) {
                AgeFerry x = new AgeFerry();
                x.sheet(0, form, n);
                for (int i = 0; i < n; i++) {
                    Check.due("lay, item " + i + " of " + n, x.lay(0, form, i, i + 1), 1);
                }
                for (int i = 0; i < n; i++) {
                    Check.due("get, item " + i + " of " + n, x.get(0, form, i), i + 1);
                }
                Check.due("count(8)", x.count(8), 0);
                Check.due("get, item " + n + " of " + n, x.get(0, form, n), LEAST);
                Check.due("count(8)", x.count(8), 2);
                Check.due("lay, item " + n + " of " + n, x.lay(0, form, n, 1), -12);
                Check.due("lay, item -1 of " + n, x.lay(0, form, -1, 1), -12);
                Check.due("get, item -1 of " + n, x.get(0, form, -1), LEAST);
            }
        }
    }

    /** "(the lowest bits that it has, with its sign)" */
    private static void theLowestBitsWithTheirSign() {
        for (int form = 0; form < 3; form++) {
            AgeFerry x = new AgeFerry();
            x.sheet(0, form, 1);
            int least = LEAST_OF[form];
            int greatest = GREATEST_OF[form];
            int[][] due = {{0, 0}, {-1, -1}, {1, 1}, {greatest, greatest}, {greatest + 1, least}, {least, least},
                {least - 1, greatest}, {2 * greatest + 1, -1}, {2 * greatest + 2, 0}, {2 * greatest + 3, 1},
                {2 * least, 0}, {2 * least - 1, -1}, {GREATEST, form == 2 ? GREATEST : -1}, {LEAST, form == 2 ? LEAST : 0}};
            for (int[] d : due) {
                Check.due("lay of " + d[0] + " by FORM " + form, x.lay(0, form, 0, d[0]), 1);
                Check.due("get of " + d[0] + " by FORM " + form, x.get(0, form, 0), d[1]);
            }
        }
    }

    private static void allByteItems() {
        for (int from = -512; from < 512; from += 128) {
            AgeFerry x = new AgeFerry();
            x.sheet(0, 0, 1);
            for (int v = from; v < from + 128; v++) {
                x.lay(0, 0, 0, v);
                Check.due("byte of " + v, x.get(0, 0, 0), (byte) v);
            }
        }
    }

    /** What stands there is told, be it as a refusal is: "count() 8 tells". */
    private static void getOfTheLeastInt() {
        AgeFerry x = new AgeFerry();
        Check.sheet(x, 0, LEAST, -11, -2);
        Check.due("get(0, 2, 0)", x.get(0, 2, 0), LEAST);
        Check.due("get(0, 2, 1)", x.get(0, 2, 1), -11);
        Check.due("get(0, 2, 2)", x.get(0, 2, 2), -2);
        Check.due("count(8)", x.count(8), 0);
        Check.due("get(0, 2, 3)", x.get(0, 2, 3), LEAST);
        Check.due("count(8)", x.count(8), 2);
        Check.due("get(0, 2, 0)", x.get(0, 2, 0), LEAST);
        Check.due("count(8) stays", x.count(8), 2);
    }

    /** "3 CAST: it has another FORM" */
    private static void treatedAsOfAForm() {
        AgeFerry x = new AgeFerry();
        for (int form = 0; form < 3; form++) {
            x.sheet(1, form, 1);
            for (int as = 0; as < 3; as++) {
                Check.due("lay(1, " + as + ", 0, 9) of " + form, x.lay(1, as, 0, 9), as == form ? 1 : -13);
                Check.due("get(1, " + as + ", 0) of " + form, x.get(1, as, 0), as == form ? 9 : LEAST);
            }
        }
    }

    // ---- promise 30: copy

    private static AgeFerry fiveAndThree() {
        AgeFerry x = new AgeFerry();
        Check.sheet(x, 0, 1, 2, 3, 4, 5);
        Check.sheet(x, 1, 11, 12, 13);
        return x;
    }

    private static void dueCopy(int i, int j, int n, int... items) {
        AgeFerry x = fiveAndThree();
        String call = "copy(0, " + i + ", 1, " + j + ", " + n + ")";
        boolean fits = items.length > 0;
        Check.due(call, x.copy(0, i, 1, j, n), fits ? 1 : -12);
        Check.due("count(8) behind " + call, x.count(8), fits ? 0 : 2);
        Check.dueItems(call, x, 0, 2, 1, 2, 3, 4, 5);
        Check.dueItems(call, x, 1, 2, fits ? items : new int[] {11, 12, 13});
        Check.due("lose(0) behind " + call, x.lose(0), 5);
        Check.due("lose(1) behind " + call, x.lose(1), 3);
    }

    /** "INDEX: below 0, not so many": up to the end is well. */
    private static void copyToTheEnds() {
        dueCopy(0, 0, 3, 1, 2, 3);
        dueCopy(2, 0, 3, 3, 4, 5);
        dueCopy(3, 0, 3);
        dueCopy(0, 0, 4);
        dueCopy(0, 1, 2, 11, 1, 2);
        dueCopy(0, 1, 3);
        dueCopy(4, 2, 1, 11, 12, 5);
        dueCopy(4, 2, 2);
        dueCopy(5, 2, 1);
        dueCopy(4, 3, 1);
        dueCopy(-1, 0, 1);
        dueCopy(0, -1, 1);
        dueCopy(0, 0, -1);
        dueCopy(GREATEST, 0, 1);
        dueCopy(0, GREATEST, 1);
        dueCopy(0, 0, GREATEST);
        dueCopy(1, 1, GREATEST);
        dueCopy(LEAST, 0, 1);
        dueCopy(0, 0, LEAST);
    }

    /** "(with n 0, too, if i or j is above how many there are)" */
    private static void copyOfNothing() {
        dueCopy(0, 0, 0, 11, 12, 13);
        dueCopy(5, 3, 0, 11, 12, 13);
        dueCopy(5, 0, 0, 11, 12, 13);
        dueCopy(0, 3, 0, 11, 12, 13);
        dueCopy(6, 0, 0);
        dueCopy(0, 4, 0);
        dueCopy(6, 4, 0);
        dueCopy(-1, 0, 0);
        dueCopy(0, -1, 0);
        AgeFerry x = new AgeFerry();
        x.sheet(0, 0, 0);
        x.sheet(1, 0, 0);
        Check.due("copy of nothing from nothing", x.copy(0, 0, 1, 0, 0), 1);
        Check.due("copy of nothing from itself", x.copy(0, 0, 0, 0, 0), 1);
        Check.due("copy of one from nothing", x.copy(0, 0, 1, 0, 1), -12);
        Check.due("copy of nothing behind nothing", x.copy(0, 1, 1, 0, 0), -12);
        Check.due("copy of nothing to behind nothing", x.copy(0, 0, 1, 1, 0), -12);
    }

    private static void copyOfAll() {
        AgeFerry x = new AgeFerry();
        x.sheet(0, 1, 60);
        x.sheet(3, 1, 60);
        for (int i = 0; i < 60; i++) {
            x.lay(0, 1, i, 1000 + i);
        }
        Check.due("copy of 61", x.copy(0, 0, 3, 0, 61), -12);
        Check.due("copy of 60", x.copy(0, 0, 3, 0, 60), 1);
        for (int i = 0; i < 60; i++) {
            Check.due("item " + i, x.get(3, 1, i), 1000 + i);
        }
    }

    private static void dueWithin(int i, int j, int n, int... items) {
        AgeFerry x = fiveAndThree();
        Check.due("copy(0, " + i + ", 0, " + j + ", " + n + ")", x.copy(0, i, 0, j, n), 1);
        Check.dueItems("copied within", x, 0, 2, items);
    }

    /** "(perhaps s, as they were)" */
    private static void copyWithinOneAsTheyWere() {
        dueWithin(0, 1, 4, 1, 1, 2, 3, 4);
        dueWithin(1, 0, 4, 2, 3, 4, 5, 5);
        dueWithin(0, 0, 5, 1, 2, 3, 4, 5);
        dueWithin(0, 2, 3, 1, 2, 1, 2, 3);
        dueWithin(2, 0, 3, 3, 4, 5, 4, 5);
        dueWithin(1, 2, 2, 1, 2, 2, 3, 5);
        dueWithin(4, 0, 1, 5, 2, 3, 4, 5);
        dueWithin(5, 5, 0, 1, 2, 3, 4, 5);
    }

    private static void copyOfEachForm() {
        for (int form = 0; form < 3; form++) {
            AgeFerry x = new AgeFerry();
            x.sheet(2, form, 2);
            x.sheet(3, form, 2);
            x.lay(2, form, 0, LEAST_OF[form]);
            x.lay(2, form, 1, GREATEST_OF[form]);
            Check.due("copy by FORM " + form, x.copy(2, 0, 3, 0, 2), 1);
            Check.dueItems("copied by FORM " + form, x, 3, form, LEAST_OF[form], GREATEST_OF[form]);
            int other = (form + 1) % 3;
            x.sheet(3, other, 2);
            Check.due("copy to FORM " + other, x.copy(2, 0, 3, 0, 2), -14);
            Check.due("copy from FORM " + other, x.copy(3, 0, 2, 0, 2), -14);
            Check.dueItems("not copied", x, 3, other, 0, 0);
        }
    }

    // ---- promise 31: write

    /** "as many as there are items and PEOPLE" */
    private static void writeAsManyAsThereAre() {
        int[] boats = {0, 1, 0, 1, 2};
        for (int n = 0; n <= 7; n++) {
            AgeFerry x = Check.ferry("10;40;12;41;39", 2, 50);
            int[] items = {99, 99, 99, 99, 99, 99, 99};
            Check.sheet(x, 0, Arrays.copyOf(items, n));
            int many = Math.min(n, 5);
            System.arraycopy(boats, 0, items, 0, many);
            Check.due("write(0) of " + n + " items", x.write(0), many);
            Check.dueItems("written to " + n, x, 0, 2, Arrays.copyOf(items, n));
        }
        AgeFerry x = Check.ferry("5;5", 1, 3);
        x.sheet(3, 2, 60);
        x.lay(3, 2, 2, 88);
        x.lay(3, 2, 59, 89);
        Check.due("write(3) of 60 items", x.write(3), 2);
        Check.dueItems("written to 60", x, 3, 2, 0, 1, 88, 0);
        Check.due("the last item", x.get(3, 2, 59), 89);
    }

    private static void writeNumbersFrom0To9() {
        AgeFerry x = Check.ferry("5;5;5;5;5;5;5;5;5;5", 1, 3);
        x.sheet(0, 0, 12);
        Check.due("write(0) of ten", x.write(0), 10);
        Check.dueItems("ten boats", x, 0, 0, 0, 1, 2, 3, 4, 5, 6, 7, 8, 9, 0, 0);
        x.set(0, 4);
        Check.due("write(0) of ten by four", x.write(0), 10);
        Check.dueItems("three boats", x, 0, 0, 0, 0, 1, 1, 1, 1, 2, 2, 2, 2, 0, 0);
        Check.due("judged(0)", x.judged(0), NONE);
        Check.due("costs(0)", x.costs(0), 0);
    }

    /** "(0 on, as the least numbers go in them)" */
    private static void writeAsTheLeastNumbersGo() {
        AgeFerry x = Check.ferry("50;10;90;91;11;51", 2, 60);
        x.sheet(0, 1, 6);
        Check.due("write(0)", x.write(0), 6);
        Check.dueItems("written", x, 0, 1, 0, 1, 2, 2, 1, 0);
        AgeFerry y = Check.ferry("5;5;5;5;5", 2, 0);
        y.sheet(0, 1, 5);
        y.write(0);
        Check.dueItems("of like ones", y, 0, 1, 0, 1, 1, 2, 2);
        y.pair(1, 0, 4, 1);
        y.write(0);
        Check.dueItems("of like ones, 0 and 4 MUST", y, 0, 1, 0, 1, 2, 2, 0);
    }

    private static void writeByEachForm() {
        for (int form = 0; form < 3; form++) {
            AgeFerry x = Check.ferry("5;6;7", 1, 3);
            x.sheet(1, form, 4);
            for (int i = 0; i < 4; i++) {
                x.lay(1, form, i, -1);
            }
            Check.due("write(1) by FORM " + form, x.write(1), 3);
            Check.dueItems("written by FORM " + form, x, 1, form, 0, 1, 2, -1);
        }
    }

    private static void writeOfNobody() {
        AgeFerry x = new AgeFerry();
        Check.sheet(x, 0, 7, 8);
        Check.due("write(0) of nobody", x.write(0), 0);
        Check.dueItems("not written", x, 0, 2, 7, 8);
        Check.type(x, "5;");
        Check.due("write(0) with a FAULT", x.write(0), 0);
        Check.dueItems("not written", x, 0, 2, 7, 8);
    }

    /** "NOT: it cannot be": whatever there would be to write. */
    private static void writeOfNoDay() {
        AgeFerry x = Scenes.stuck();
        Check.due("write(2)", x.write(2), NOT);
        Check.dueItems("not written", x, 2, 2, 21, 22, 23, 24, 25, 26, 27);
        x.sheet(3, 0, 0);
        Check.due("write(3) of no items", x.write(3), NOT);
        x.pair(0, 1, 2, 0);
        Check.due("write(3) when it can be", x.write(3), 0);
        Check.due("write(2) when it can be", x.write(2), 4);
    }

    // ---- promise 32: count

    private static void countOfPeopleAndBytes() {
        AgeFerry x = new AgeFerry();
        int[] people = {0, 1, 0, 2, 2, 2, 0};
        int[] years = {0, 9, 0, 10, 21, 129, 0};
        String text = "9;120;";
        for (int many = 0; many <= text.length(); many++) {
            Check.due("count(0) of " + many + " bytes", x.count(0), people[many]);
            Check.due("count(1) of " + many + " bytes", x.count(1), many);
            Check.due("count(2) of " + many + " bytes", x.count(2), years[many]);
            if (many < text.length()) {
                x.type(text.charAt(many));
            }
        }
        AgeFerry ten = Check.ferry("120;120;120;120;120;120;120;120;120;120");
        ten.lie(0, 30);
        Check.due("count(2), AGES and no LIES", ten.count(2), 1200);
        Check.due("count(0)", ten.count(0), 10);
        Check.due("count(9)", ten.count(9), BAD);
        Check.due("count(-1)", ten.count(-1), BAD);
    }

    /** "of how many PEOPLE that there are the LIE is not 0" */
    private static void countOfLiesThatAreThere() {
        AgeFerry x = Check.ferry("5;5;5");
        x.lie(9, 30);
        x.lie(3, -30);
        Check.due("count(3), not there", x.count(3), 0);
        x.lie(2, -1);
        Check.due("count(3), below 0", x.count(3), 1);
        x.lie(0, 1);
        Check.due("count(3), above 0", x.count(3), 2);
        x.lie(1, -30);
        Check.due("count(3), all", x.count(3), 3);
        x.lie(1, 0);
        Check.due("count(3), one no more", x.count(3), 2);
        Check.type(x, ";5");
        Check.due("count(3), one more there", x.count(3), 3);
        x.wipe();
        Check.due("count(3) of nobody", x.count(3), 0);
    }

    private static void countOfPairsAndSeen() {
        AgeFerry x = new AgeFerry();
        for (int number = 1; number < 10; number++) {
            x.pair(0, 0, number, 1);
            Check.due("count(4)", x.count(4), number);
            Check.due("count(5)", x.count(5), 0);
        }
        x.pair(1, 8, 9, 1);
        x.pair(1, 9, 8, 1);
        Check.due("count(5), once", x.count(5), 1);
        Check.due("count(4) stays", x.count(4), 9);
        for (int many = 1; many <= 8; many++) {
            x.seen(0, 1, 5);
            Check.due("count(6)", x.count(6), many);
        }
        x.seen(0, 1, 5);
        Check.due("count(6), 8 at most", x.count(6), 8);
        x.forget();
        Check.due("count(6) behind forget()", x.count(6), 0);
    }

    private static void countOfSize() {
        AgeFerry x = new AgeFerry();
        Check.due("count(7) at first", x.count(7), 2);
        for (int size = 1; size <= 4; size++) {
            x.set(0, size);
            Check.due("count(7)", x.count(7), size);
        }
        x.set(0, 5);
        Check.due("count(7) behind BAD", x.count(7), 4);
    }

    /** "the number of the latest FINDING (0 before any)": no other refusal, and nothing that is well, changes it. */
    private static void countOfTheLatestFinding() {
        AgeFerry x = new AgeFerry();
        Check.due("count(8) before any", x.count(8), 0);
        x.sheet(0, 0, 1);
        x.sheet(1, 1, 1);
        x.lay(4, 0, 0, 0);
        x.type(256);
        Check.due("count(8) behind BAD", x.count(8), 0);
        Check.due("NULL", x.lose(2), -11);
        Check.due("count(8)", x.count(8), 1);
        Check.due("INDEX", x.lay(0, 0, 1, 0), -12);
        Check.due("count(8)", x.count(8), 2);
        Check.due("CAST", x.lay(0, 1, 0, 0), -13);
        Check.due("count(8)", x.count(8), 3);
        Check.due("STORE", x.copy(0, 0, 1, 0, 1), -14);
        Check.due("count(8)", x.count(8), 4);
        Check.due("SIZE", x.sheet(0, 0, -1), -15);
        Check.due("count(8)", x.count(8), 5);
        x.lay(0, 0, 0, 3);
        x.get(0, 0, 0);
        x.get(4, 0, 0);
        x.wipe();
        x.forget();
        x.digest();
        x.lose(0);
        Check.due("count(8) stays", x.count(8), 5);
        Check.due("NULL again", x.lose(0), -11);
        Check.due("count(8)", x.count(8), 1);
    }

    // ---- promise 33: digest

    private static void dueDigest(String what, AgeFerry x, long[]... told) {
        long h = 17;
        for (long[] some : told) {
            for (long one : some) {
                h = 31 * h + one;
            }
        }
        Check.due("digest() of " + what, x.digest(), h);
    }

    private static void digestOfOne() {
        dueDigest("one", Check.ferry("5", 2, 7), new long[] {1, 1, 5, 0, 0, 0, 0, 2, -1},
            new long[] {5, 5, 1, 7, 1, 7, 1, 0, 121, 0, 120}, new long[] {7, 1, 7, 0, 14, 7});
        dueDigest("nobody, with a FAULT", Check.ferry("5;"), new long[] {0, 2, 0, 0, 0, 0, 0, 2, 2, 0, 0, 0, -1, 0, 0});
    }

    /** SHARES of seven are FULL, "(as they are told)". */
    private static void digestOfSeven() {
        long full = Check.longRefusal(4);
        long[] first = {5, 5, 7, 0, 1, full, full, 0, 121, 0, 120};
        long[] last = {5, 5, 120, 0, 1, full, full, 0, 121, 0, 120};
        dueDigest("seven", Check.ferry("5;5;5;5;5;5;5", 4, 0), new long[] {7, 13, 35, 0, 0, 0, 0, 4, -1},
            first, first, first, last, last, last, last, new long[] {0, 2, 0, 0, 0, 0});
    }

    /** Who pays is NOT, BACK is FULL, LIE is NOT as any number. */
    private static void digestOfNineWhoAreStuck() {
        AgeFerry x = Check.ferry("5;5;5;5;5;5;5;5;5");
        x.pair(0, 0, 1, 1);
        x.pair(1, 0, 1, 1);
        long not = Check.longRefusal(3);
        long full = Check.longRefusal(4);
        long[] each = {5, 5, -1, not, not, full, full, -1003, 121, 0, 120};
        dueDigest("nine", x, new long[] {9, 17, 45, 0, 1, 1, 0, 2, -1},
            each, each, each, each, each, each, each, each, each, new long[] {-1, -1, -1, 0, -4, 0});
    }

    /** "as longs that wrap" */
    private static void digestAsAllIsTold() {
        String text = "20;120;7;33;0;65;98;9;41;12";
        for (int many = 0; many <= text.length(); many++) {
            AgeFerry x = Check.ferry(text.substring(0, many), 3, 17);
            x.set(1, 2);
            x.set(3, 1);
            x.lie(0, -30);
            x.lie(3, 11);
            x.put(1, 1, 5);
            x.put(2, 0, 99);
            x.seen(0, 3, 44);
            x.seen(1, 2, 100);
            x.pair(0, 1, 4, 1);
            Check.due("digest() of " + many + " bytes", x.digest(), Check.digestOf(x));
            x.pair(1, 0, 2, 1);
            Check.due("digest() of " + many + " bytes, 0 and 2 MUST", x.digest(), Check.digestOf(x));
        }
    }

    /** Neither SHEETS nor count(8) are in it. */
    private static void digestOfNoSheets() {
        AgeFerry x = Scenes.busy();
        long before = x.digest();
        x.sheet(0, 2, 9);
        x.lay(0, 2, 0, 9);
        x.lose(1);
        x.lose(1);
        Check.due("count(8)", x.count(8), 1);
        Check.due("digest() of other SHEETS", x.digest(), before);
    }

    private static void askingChangesNothing() {
        for (int what = 0; what <= 7; what++) {
            int which = what;
            Asked.unchanged("count(" + what + ")", Scenes::busy, x -> x.count(which), Scenes.busy().count(what));
        }
        Asked.unchanged("fault()", Scenes::faulty, AgeFerry::fault, 12);
        Asked.unchanged("person(2, 1)", Scenes::busy, x -> x.person(2, 1), 26);
        Asked.unchanged("get(1, 1, 5)", Scenes::busy, x -> x.get(1, 1, 5), 16);
        Asked.unchanged("digest()", Scenes::busy, AgeFerry::digest, Check.digestOf(Scenes.busy()));
        Asked.unchanged("copy(2, 7, 2, 7, 0)", Scenes::busy, x -> x.copy(2, 7, 2, 7, 0), 1);
        Asked.unchanged("write of no items", SheetsEdgesTest::withEmptySheet, x -> x.write(3), 0);
        Asked.unchanged("forget() of none", AgeFerry::new, AgeFerry::forget, 0);
        Asked.unchanged("wipe() of nothing", Scenes::nobody, AgeFerry::wipe, 0);
    }

    private static AgeFerry withEmptySheet() {
        AgeFerry x = Scenes.busy();
        x.sheet(3, 0, 0);
        return x;
    }
}
