/** Sentences on sheets: Terms, promises 29 to 34. */
final class SaysOfSheets extends Checks {
    private static final int[] NO_SHEET = {-1, 4, Integer.MIN_VALUE, Integer.MAX_VALUE};
    private static final int[] NO_FORM = {-1, 3, Integer.MIN_VALUE, Integer.MAX_VALUE};

    /** A get that is refused: the least int, and the number that count() 8 tells then. */
    private static void noItem(String what, TuneLoans x, int s, int form, int i, int finding) {
        due(what, x.get(s, form, i), NO_ITEM);
        due(what + ", the finding", x.count(8), finding);
    }

    /** How many items a sheet has: a copy of none is well up to its end. */
    private static void size(String what, TuneLoans x, int s, int size) {
        due(what + ", its end is there", x.copy(s, size, s, size, 0), 1);
        due(what + ", nothing is behind", x.copy(s, size + 1, s, 0, 0), INDEX);
    }

    private static void laidAs(int form, int value, int item) {
        TuneLoans x = new TuneLoans();
        x.sheet(0, form, 1);
        due("form " + form + " takes " + value, x.lay(0, form, 0, value), 1);
        due("form " + form + " has of " + value, x.get(0, form, 0), item);
        due("without a finding", x.count(8), 0);
    }

    // ---- sheets

    @Says("SHEETS 0 .. 3 are LOST (at first) or a row of a FORM")
    static void fourSheetsFrom0On() {
        TuneLoans x = new TuneLoans();
        for (int s = 0; s <= 3; s++) {
            due("sheet " + s + " is lost", x.lose(s), NULL);
            due("sheet " + s + " is made", x.sheet(s, s % 3, 10 + s), 10 + s);
        }
        for (int s = 0; s <= 3; s++) due("each has its own", x.lose(s), 10 + s);
        for (int s = 0; s <= 3; s++) due("each is lost again", x.lose(s), NULL);
        for (int s : NO_SHEET) due("sheet " + s, x.sheet(s, 0, 1), BAD);
    }

    @Says("a row of a FORM: 0 bytes, 1 shorts, 2 ints, of 0 to 60 items (0 at first).")
    static void formsAre0To2() {
        TuneLoans x = new TuneLoans();
        for (int form = 0; form <= 2; form++) {
            due("form " + form, x.sheet(0, form, 1), 1);
            for (int other = 0; other <= 2; other++) {
                due("form " + form + " as " + other, x.lay(0, other, 0, 1), other == form ? 1 : CAST);
            }
        }
        for (int form : NO_FORM) due("form " + form, x.sheet(0, form, 1), BAD);
    }

    @Says("a row of a FORM: 0 bytes, 1 shorts, 2 ints, of 0 to 60 items (0 at first).")
    static void from0To60Items() {
        for (int form = 0; form <= 2; form++) {
            TuneLoans x = new TuneLoans();
            due("none", x.sheet(0, form, 0), 0);
            due("so no first", x.lay(0, form, 0, 1), INDEX);
            due("one", x.sheet(0, form, 1), 1);
            due("so a first", x.lay(0, form, 0, 1), 1);
            due("and no second", x.lay(0, form, 1, 1), INDEX);
            due("sixty", x.sheet(0, form, 60), 60);
            due("so a last", x.lay(0, form, 59, 7), 1);
            due("it is there", x.get(0, form, 59), 7);
            due("and none behind", x.lay(0, form, 60, 1), INDEX);
            due("61", x.sheet(0, form, 61), BAD);
            due("-1", x.sheet(0, form, -1), SIZE);
        }
    }

    @Says("a row of a FORM: 0 bytes, 1 shorts, 2 ints, of 0 to 60 items (0 at first).")
    static void itemsAre0AtFirst() {
        TuneLoans x = new TuneLoans();
        for (int form = 0; form <= 2; form++) {
            x.sheet(form, form, 60);
            for (int i = 0; i < 60; i++) due("item " + i, x.get(form, form, i), 0);
            for (int i = 0; i < 60; i++) x.lay(form, form, i, 99);
            x.sheet(form, form, 60);
            for (int i = 0; i < 60; i++) due("item " + i + " of a new one", x.get(form, form, i), 0);
        }
    }

    // ---- findings

    @Says("FINDINGS (answers -10 less the number; they change nothing but count() 8): 1 NULL: the SHEET is LOST;")
    static void number1IsNull() {
        for (int k = 0; k < 4; k++) {
            TuneLoans x = bank("a", "");
            int[] got = {x.lose(0), x.read(1), x.lay(2, 0, 0, 0), x.write(0, 0, 3)};
            due("call " + k, got[k], -10 - 1);
            due("the number", x.count(8), 1);
        }
        TuneLoans y = new TuneLoans();
        y.sheet(0, 0, 1);
        due("copy to", y.copy(0, 0, 1, 0, 1), -11);
        due("copy from", y.copy(1, 0, 0, 0, 1), -11);
        noItem("get", y, 1, 0, 0, 1);
    }

    @Says("2 INDEX: there is no such item;")
    static void number2IsIndex() {
        TuneLoans x = new TuneLoans();
        x.sheet(0, 1, 3);
        due("lay -1", x.lay(0, 1, -1, 0), -10 - 2);
        due("lay 3", x.lay(0, 1, 3, 0), -10 - 2);
        due("the number", x.count(8), 2);
        noItem("get -1", x, 0, 1, -1, 2);
        noItem("get 3", x, 0, 1, 3, 2);
        due("copy", x.copy(0, 0, 0, 1, 3), -10 - 2);
    }

    @Says("3 CAST: it has another FORM;")
    static void number3IsCast() {
        for (int form = 0; form <= 2; form++) {
            for (int other = 0; other <= 2; other++) {
                if (other == form) continue;
                TuneLoans x = new TuneLoans();
                x.sheet(0, form, 3);
                due("lay", x.lay(0, other, 0, 0), -10 - 3);
                due("the number", x.count(8), 3);
                noItem("get", x, 0, other, 0, 3);
            }
        }
    }

    @Says("4 STORE: unlike FORMS;")
    static void number4IsStore() {
        for (int form = 0; form <= 2; form++) {
            for (int other = 0; other <= 2; other++) {
                TuneLoans x = new TuneLoans();
                x.sheet(0, form, 3);
                x.sheet(1, other, 3);
                due("copy of " + form + " to " + other, x.copy(0, 0, 1, 0, 1), other == form ? 1 : -10 - 4);
                due("the number", x.count(8), other == form ? 0 : 4);
                due("of no items even", x.copy(0, 0, 1, 0, 0), other == form ? 1 : -10 - 4);
            }
        }
    }

    @Says("5 SIZE: below 0.")
    static void number5IsSize() {
        TuneLoans x = new TuneLoans();
        due("-1", x.sheet(0, 0, -1), -10 - 5);
        due("the number", x.count(8), 5);
        due("far below", x.sheet(0, 0, Integer.MIN_VALUE), -10 - 5);
        due("the sheet is still lost", x.lose(0), NULL);
    }

    @Says("(answers -10 less the number; they change nothing but count() 8)")
    static void theLatestNumberStays() {
        TuneLoans x = new TuneLoans();
        due("before any", x.count(8), 0);
        x.sheet(0, 0, -1);
        due("SIZE", x.count(8), 5);
        x.sheet(0, 0, 2);
        due("what is well leaves it", x.count(8), 5);
        x.lay(0, 0, 2, 0);
        due("INDEX", x.count(8), 2);
        x.lay(0, 3, 0, 0);
        x.get(4, 0, 0);
        x.type(2, 0);
        x.undo(0);
        due("BAD and NOT leave it", x.count(8), 2);
        x.digest();
        x.count(9);
        due("so does asking", x.count(8), 2);
        x.lay(0, 1, 0, 0);
        due("CAST", x.count(8), 3);
        x.lose(1);
        due("NULL", x.count(8), 1);
        x.sheet(1, 2, 2);
        x.copy(0, 0, 1, 0, 1);
        due("STORE", x.count(8), 4);
    }

    // ---- promise 29: sheet

    @Says(promise = 29, value = "A SHEET is a new row of a FORM with n items: n.")
    static void aNewRowTakesThePlaceOfTheOld() {
        TuneLoans x = new TuneLoans();
        laid(x, 0, 2, 70000, 70001, 70002);
        due("of another form", x.sheet(0, 0, 2), 2);
        items("bytes of 0", x, 0, 0, 0, 0);
        due("ints no more", x.lay(0, 2, 0, 1), CAST);
        due("longer", x.sheet(0, 0, 4), 4);
        items("four of 0", x, 0, 0, 0, 0, 0, 0);
        due("of none", x.sheet(0, 0, 0), 0);
        due("it is there, and not lost", x.lose(0), 0);
    }

    @Says(promise = 29, value = "BAD: SHEET, FORM, above 60; SIZE.")
    static void sheetOfNoSuchThing() {
        TuneLoans x = new TuneLoans();
        for (int s : NO_SHEET) due("sheet " + s, x.sheet(s, 0, 1), BAD);
        for (int form : NO_FORM) due("form " + form, x.sheet(0, form, 1), BAD);
        due("61 items", x.sheet(0, 0, 61), BAD);
        due("the most", x.sheet(0, 0, Integer.MAX_VALUE), BAD);
        due("no finding", x.count(8), 0);
        due("nothing was made", x.lose(0), NULL);
    }

    @Says(promise = 29, value = "BAD: SHEET, FORM, above 60; SIZE.")
    static void badIsAheadOfSize() {
        TuneLoans x = new TuneLoans();
        for (int s : NO_SHEET) due("sheet " + s, x.sheet(s, 0, -1), BAD);
        for (int form : NO_FORM) due("form " + form, x.sheet(0, form, -1), BAD);
        due("no finding", x.count(8), 0);
        due("SIZE by itself", x.sheet(3, 2, -1), SIZE);
    }

    @Says(promise = 29, value = "BAD: SHEET, FORM, above 60; SIZE.")
    static void aRefusedSheetLeavesTheOld() {
        TuneLoans x = new TuneLoans();
        laid(x, 1, 1, 5, -6);
        x.sheet(1, 1, -1);
        x.sheet(1, 0, 61);
        x.sheet(1, 3, 2);
        items("its items", x, 1, 1, 5, -6);
        size("it", x, 1, 2);
    }

    // ---- promise 30: lose

    @Says(promise = 30, value = "It is LOST: how many items it had.")
    static void loseTellsFrom0To60() {
        for (int n : new int[] {0, 1, 59, 60}) {
            TuneLoans x = new TuneLoans();
            x.sheet(2, 1, n);
            due("of " + n, x.lose(2), n);
            due("again", x.lose(2), NULL);
            noItem("no item", x, 2, 1, 0, 1);
        }
    }

    @Says(promise = 30, value = "BAD; NULL.")
    static void loseOfNoSuchSheet() {
        TuneLoans x = new TuneLoans();
        for (int s : NO_SHEET) due("sheet " + s, x.lose(s), BAD);
        due("no finding", x.count(8), 0);
        for (int s = 0; s <= 3; s++) due("sheet " + s, x.lose(s), NULL);
        due("a finding", x.count(8), 1);
    }

    // ---- promise 31: lay

    @Says(promise = 31, value = "Item i, treated as of a FORM, becomes v (the lowest bits that it has): 1.")
    static void bytesHaveTheLowest8Bits() {
        laidAs(0, 127, 127);
        laidAs(0, 128, -128);
        laidAs(0, 255, -1);
        laidAs(0, 256, 0);
        laidAs(0, 257, 1);
        laidAs(0, -1, -1);
        laidAs(0, -128, -128);
        laidAs(0, -129, 127);
        laidAs(0, Integer.MAX_VALUE, -1);
        laidAs(0, Integer.MIN_VALUE, 0);
    }

    @Says(promise = 31, value = "Item i, treated as of a FORM, becomes v (the lowest bits that it has): 1.")
    static void shortsHaveTheLowest16Bits() {
        laidAs(1, 32767, 32767);
        laidAs(1, 32768, -32768);
        laidAs(1, 65535, -1);
        laidAs(1, 65536, 0);
        laidAs(1, 65537, 1);
        laidAs(1, 128, 128);
        laidAs(1, 255, 255);
        laidAs(1, -1, -1);
        laidAs(1, -32768, -32768);
        laidAs(1, -32769, 32767);
        laidAs(1, Integer.MAX_VALUE, -1);
        laidAs(1, Integer.MIN_VALUE, 0);
    }

    @Says(promise = 31, value = "Item i, treated as of a FORM, becomes v (the lowest bits that it has): 1.")
    static void intsHaveAllBits() {
        int[] values = {0, 1, -1, 32768, 65536, -32769, Integer.MAX_VALUE, Integer.MIN_VALUE, Integer.MIN_VALUE + 1};
        for (int v : values) laidAs(2, v, v);
    }

    @Says(promise = 31, value = "Item i, treated as of a FORM, becomes v (the lowest bits that it has): 1.")
    static void onlyItemIBecomesV() {
        for (int form = 0; form <= 2; form++) {
            TuneLoans x = new TuneLoans();
            laid(x, 0, form, 1, 2, 3);
            x.lay(0, form, 0, 7);
            items("the first", x, 0, form, 7, 2, 3);
            x.lay(0, form, 2, 9);
            items("the last", x, 0, form, 7, 2, 9);
        }
    }

    @Says(promise = 31, value = "BAD; NULL; CAST; INDEX.")
    static void layOfNoSuchThing() {
        TuneLoans x = new TuneLoans();
        x.sheet(0, 0, 1);
        for (int s : NO_SHEET) due("sheet " + s, x.lay(s, 0, 0, 1), BAD);
        for (int form : NO_FORM) due("form " + form, x.lay(0, form, 0, 1), BAD);
        due("no finding", x.count(8), 0);
        for (int far : FAR_OUT) due("i far out", x.lay(0, 0, far, 1), INDEX);
        items("nothing became", x, 0, 0, 0);
    }

    @Says(promise = 31, value = "BAD; NULL; CAST; INDEX.")
    static void layTellsTheFirstThatFits() {
        TuneLoans x = new TuneLoans();
        x.sheet(0, 1, 2);
        due("BAD ahead of NULL", x.lay(1, 3, 0, 1), BAD);
        due("BAD ahead of CAST and INDEX", x.lay(0, 3, 2, 1), BAD);
        due("BAD ahead of INDEX", x.lay(4, 1, -1, 1), BAD);
        due("no finding", x.count(8), 0);
        due("NULL ahead of CAST and INDEX", x.lay(1, 2, -1, 1), NULL);
        due("CAST ahead of INDEX", x.lay(0, 2, 2, 1), CAST);
        due("CAST ahead of INDEX below 0", x.lay(0, 0, -1, 1), CAST);
        due("INDEX", x.lay(0, 1, 2, 1), INDEX);
    }

    // ---- promise 32: get

    @Says(promise = 32, value = "Item i of it.")
    static void getFromTheFirstToTheLast() {
        for (int form = 0; form <= 2; form++) {
            TuneLoans x = new TuneLoans();
            x.sheet(3, form, 60);
            for (int i = 0; i < 60; i++) x.lay(3, form, i, 60 - i);
            for (int i = 0; i < 60; i++) due("item " + i, x.get(3, form, i), 60 - i);
            due("no finding", x.count(8), 0);
            noItem("item 60", x, 3, form, 60, 2);
            noItem("item -1", x, 3, form, -1, 2);
        }
    }

    @Says(promise = 32, value = "BAD: the least int; so are NULL, CAST, INDEX (count() 8 tells).")
    static void theLeastIntMayBeAnItemToo() {
        TuneLoans x = new TuneLoans();
        laid(x, 0, 2, Integer.MIN_VALUE);
        due("as an item", x.get(0, 2, 0), Integer.MIN_VALUE);
        due("then there is no finding", x.count(8), 0);
        noItem("as a refusal", x, 0, 2, 1, 2);
    }

    @Says(promise = 32, value = "BAD: the least int; so are NULL, CAST, INDEX (count() 8 tells).")
    static void getOfNoSuchThing() {
        TuneLoans x = new TuneLoans();
        x.sheet(0, 0, 1);
        for (int s : NO_SHEET) noItem("sheet " + s, x, s, 0, 0, 0);
        for (int form : NO_FORM) noItem("form " + form, x, 0, form, 0, 0);
        for (int far : FAR_OUT) noItem("i far out", x, 0, 0, far, 2);
    }

    @Says(promise = 32, value = "BAD: the least int; so are NULL, CAST, INDEX (count() 8 tells).")
    static void getTellsTheFirstThatFits() {
        TuneLoans x = new TuneLoans();
        x.sheet(0, 1, 2);
        noItem("BAD ahead of NULL", x, 1, 3, 0, 0);
        noItem("BAD ahead of CAST and INDEX", x, 0, -1, 2, 0);
        noItem("BAD ahead of INDEX", x, 4, 1, -1, 0);
        noItem("NULL ahead of CAST and INDEX", x, 1, 2, -1, 1);
        noItem("CAST ahead of INDEX", x, 0, 2, 2, 3);
        noItem("INDEX", x, 0, 1, 2, 2);
        noItem("CAST ahead of INDEX below 0", x, 0, 0, -1, 3);
    }

    // ---- promise 33: copy

    @Says(promise = 33, value = "n items of SHEET s, from i on, come to SHEET t (perhaps s, as they were), from j on: 1.")
    static void someItemsComeFromOneToAnother() {
        for (int form = 0; form <= 2; form++) {
            TuneLoans x = new TuneLoans();
            laid(x, 0, form, 1, 2, 3, 4, -5);
            laid(x, 1, form, 9, 9, 9, 9);
            due("three", x.copy(0, 2, 1, 1, 3), 1);
            items("they came", x, 1, form, 9, 3, 4, -5);
            items("and stay", x, 0, form, 1, 2, 3, 4, -5);
            due("the first to the last", x.copy(0, 0, 1, 3, 1), 1);
            items("it came", x, 1, form, 9, 3, 4, 1);
            due("the last to the first", x.copy(0, 4, 1, 0, 1), 1);
            items("it came too", x, 1, form, -5, 3, 4, 1);
        }
    }

    @Says(promise = 33, value = "n items of SHEET s, from i on, come to SHEET t (perhaps s, as they were), from j on: 1.")
    static void allSixtyAndNone() {
        TuneLoans x = new TuneLoans();
        x.sheet(0, 2, 60);
        x.sheet(3, 2, 60);
        for (int i = 0; i < 60; i++) x.lay(0, 2, i, 100 + i);
        due("none", x.copy(0, 0, 3, 0, 0), 1);
        due("so nothing came", x.get(3, 2, 0), 0);
        due("all", x.copy(0, 0, 3, 0, 60), 1);
        for (int i = 0; i < 60; i++) due("item " + i, x.get(3, 2, i), 100 + i);
        x.sheet(1, 2, 0);
        due("none of none", x.copy(1, 0, 1, 0, 0), 1);
        due("one of none", x.copy(1, 0, 0, 0, 1), INDEX);
        due("one to none", x.copy(0, 0, 1, 0, 1), INDEX);
    }

    @Says(promise = 33, value = "n items of SHEET s, from i on, come to SHEET t (perhaps s, as they were), from j on: 1.")
    static void withinOneSheetAsTheyWere() {
        TuneLoans x = new TuneLoans();
        laid(x, 0, 0, 1, 2, 3, 4, 5);
        due("forward", x.copy(0, 0, 0, 1, 4), 1);
        items("as they were", x, 0, 0, 1, 1, 2, 3, 4);
        laid(x, 0, 0, 1, 2, 3, 4, 5);
        due("backward", x.copy(0, 1, 0, 0, 4), 1);
        items("as they were", x, 0, 0, 2, 3, 4, 5, 5);
        due("where they are", x.copy(0, 0, 0, 0, 5), 1);
        items("as they are", x, 0, 0, 2, 3, 4, 5, 5);
    }

    @Says(promise = 33, value = "BAD: the SHEETS;")
    static void copyOfNoSuchSheets() {
        TuneLoans x = new TuneLoans();
        x.sheet(0, 0, 1);
        for (int s : NO_SHEET) {
            due("from " + s, x.copy(s, 0, 0, 0, 1), BAD);
            due("to " + s, x.copy(0, 0, s, 0, 1), BAD);
        }
        due("no finding", x.count(8), 0);
        x.sheet(3, 0, 1);
        due("from the last", x.copy(3, 0, 0, 0, 1), 1);
        due("to the last", x.copy(0, 0, 3, 0, 1), 1);
    }

    @Says(promise = 33, value = "NULL: s, t;")
    static void copyOfLostSheets() {
        TuneLoans x = new TuneLoans();
        x.sheet(0, 0, 1);
        due("from a lost one", x.copy(1, 0, 0, 0, 1), NULL);
        due("to a lost one", x.copy(0, 0, 1, 0, 1), NULL);
        due("both", x.copy(1, 0, 2, 0, 1), NULL);
        due("a lost one to itself", x.copy(1, 0, 1, 0, 0), NULL);
        due("the finding", x.count(8), 1);
    }

    @Says(promise = 33, value = "INDEX: below 0, not so many.")
    static void copyFromOrToBelow0() {
        TuneLoans x = new TuneLoans();
        laid(x, 0, 1, 1, 2, 3);
        laid(x, 1, 1, 7, 8, 9);
        due("i -1", x.copy(0, -1, 1, 0, 1), INDEX);
        due("j -1", x.copy(0, 0, 1, -1, 1), INDEX);
        due("n -1", x.copy(0, 0, 1, 0, -1), INDEX);
        due("n -1 from behind", x.copy(0, 3, 1, 3, -1), INDEX);
        due("i -1 of none", x.copy(0, -1, 1, 0, 0), INDEX);
        due("j -1 of none", x.copy(0, 0, 1, -1, 0), INDEX);
        due("i far below", x.copy(0, Integer.MIN_VALUE, 1, 0, 1), INDEX);
        due("j far below", x.copy(0, 0, 1, Integer.MIN_VALUE, 1), INDEX);
        due("n far below", x.copy(0, 0, 1, 0, Integer.MIN_VALUE), INDEX);
        due("i and n wrap around", x.copy(0, -1, 1, 0, Integer.MIN_VALUE), INDEX);
        items("nothing came", x, 1, 1, 7, 8, 9);
    }

    @Says(promise = 33, value = "INDEX: below 0, not so many.")
    static void copyOfNotSoMany() {
        TuneLoans x = new TuneLoans();
        laid(x, 0, 1, 1, 2, 3, 4);
        laid(x, 1, 1, 7, 8, 9);
        for (int i = 0; i <= 4; i++) {
            for (int j = 0; j <= 3; j++) {
                int room = Math.min(4 - i, 3 - j);
                TuneLoans y = new TuneLoans();
                y.sheet(0, 1, 4);
                y.sheet(1, 1, 3);
                due("from " + i + " to " + j + " as many", y.copy(0, i, 1, j, room), 1);
                due("from " + i + " to " + j + " one more", y.copy(0, i, 1, j, room + 1), INDEX);
            }
        }
        due("of none, from behind its end", x.copy(0, 5, 1, 0, 0), INDEX);
        due("of none, to behind its end", x.copy(0, 0, 1, 4, 0), INDEX);
        due("the finding", x.count(8), 2);
        items("nothing came", x, 1, 1, 7, 8, 9);
    }

    @Says(promise = 33, value = "INDEX: below 0, not so many.")
    static void copyOfSumsThatWrap() {
        TuneLoans x = new TuneLoans();
        laid(x, 0, 2, 1, 2, 3);
        int most = Integer.MAX_VALUE;
        int[][] wraps = {{most, 0, 1}, {0, most, 1}, {0, 0, most}, {1, 0, most}, {0, 1, most}, {most, 0, most},
            {0, most, most}, {most, most, most}, {most, most, 2}, {most, most, 0}};
        for (int[] w : wraps) {
            due("from " + w[0] + " to " + w[1] + " " + w[2], x.copy(0, w[0], 0, w[1], w[2]), INDEX);
        }
        items("nothing came", x, 0, 2, 1, 2, 3);
    }

    @Says(promise = 33, value = "BAD: the SHEETS; NULL: s, t; STORE; INDEX: below 0, not so many.")
    static void copyTellsTheFirstThatFits() {
        TuneLoans x = new TuneLoans();
        x.sheet(0, 1, 2);
        x.sheet(1, 2, 2);
        due("BAD ahead of NULL: from", x.copy(4, 0, 2, 0, 1), BAD);
        due("BAD ahead of NULL: to", x.copy(2, 0, 4, 0, 1), BAD);
        due("BAD ahead of INDEX", x.copy(-1, 0, 0, -1, 1), BAD);
        due("no finding", x.count(8), 0);
        due("NULL ahead of STORE and INDEX: from", x.copy(2, -1, 1, 0, 1), NULL);
        due("NULL ahead of STORE and INDEX: to", x.copy(1, 0, 2, -1, 1), NULL);
        due("STORE ahead of INDEX", x.copy(0, -1, 1, 0, 1), STORE);
        due("STORE ahead of INDEX: not so many", x.copy(0, 0, 1, 0, 3), STORE);
        due("INDEX", x.copy(0, 0, 0, 0, 3), INDEX);
    }

    // ---- promise 34: write

    @Says(promise = 34, value = "NOTES of a TUNE behind a YEAR come to a SHEET from item 0 on, as many as there are items and NOTES: how many.")
    static void asManyAsThereAreItemsAndNotes() {
        for (int form = 0; form <= 2; form++) {
            for (int size = 0; size <= 5; size++) {
                TuneLoans x = bank("gfe", "");
                laid(x, 0, form, java.util.Arrays.copyOf(new int[] {9, 9, 9, 9, 9}, size));
                int many = Math.min(size, 3);
                due("to " + size, x.write(0, 0, 0), many);
                for (int i = 0; i < size; i++) due("item " + i, x.get(0, form, i), i < many ? 6 - i : 9);
                due("no more items", x.lay(0, form, size, 0), INDEX);
            }
        }
    }

    @Says(promise = 34, value = "NOTES of a TUNE behind a YEAR come to a SHEET from item 0 on, as many as there are items and NOTES: how many.")
    static void fortyNotesAndNoNotes() {
        TuneLoans x = bank("aaaabbbbbbbc", "a+a;a-a;b-b;c-c");
        x.ear(0);
        x.loan(0, 0, 0, 3);
        for (int k = 1; k <= 3; k++) x.loan(2 + k, 0, k, 1);
        x.sheet(0, 0, 60);
        x.lay(0, 0, 40, 77);
        due("forty to sixty", x.write(2, 0, 0), 40);
        due("the last", x.get(0, 0, 39), 2);
        due("behind it", x.get(0, 0, 40), 77);
        x.sheet(1, 2, 39);
        due("forty to 39", x.write(2, 0, 1), 39);
        due("the last that came", x.get(1, 2, 38), 1);
        due("none are left", x.write(39, 0, 0), 0);
        due("so none came", x.get(0, 0, 39), 2);
    }

    @Says(promise = 34, value = "NOTES of a TUNE behind a YEAR come to a SHEET from item 0 on, as many as there are items and NOTES: how many.")
    static void behindThatYearAndOfThatTune() {
        TuneLoans x = bank("a;b;a", "a+g");
        x.loan(0, 2, 0, 9);
        x.sheet(0, 1, 60);
        due("tune 2, year 0", x.write(0, 2, 0), 2);
        due("tune 2, year 8", x.write(8, 2, 0), 10);
        due("tune 2, year 39", x.write(39, 2, 0), 10);
        due("its second", x.get(0, 1, 1), 6);
        due("tune 1, year 39", x.write(39, 1, 0), 1);
        due("its first", x.get(0, 1, 0), 1);
    }

    @Says(promise = 34, value = "BAD; NULL.")
    static void writeOfNoSuchThing() {
        TuneLoans x = bank("a;b;c;d;e;f", "");
        x.sheet(0, 0, 1);
        for (int year : new int[] {-1, 40, Integer.MIN_VALUE, Integer.MAX_VALUE}) {
            due("year " + year, x.write(year, 0, 0), BAD);
        }
        for (int t : new int[] {-1, 6, Integer.MIN_VALUE, Integer.MAX_VALUE}) due("tune " + t, x.write(0, t, 0), BAD);
        for (int s : NO_SHEET) due("sheet " + s, x.write(0, 0, s), BAD);
        due("tune 1 of one", bank("a", "").write(0, 1, 0), BAD);
        due("the last of all", x.write(39, 5, 0), 1);
        due("no finding", x.count(8), 0);
    }

    @Says(promise = 34, value = "BAD; NULL.")
    static void writeTellsTheFirstThatFits() {
        TuneLoans x = bank("a", "");
        due("BAD year ahead of NULL", x.write(40, 0, 0), BAD);
        due("BAD tune ahead of NULL", x.write(0, 1, 0), BAD);
        due("no finding", x.count(8), 0);
        for (int s = 0; s <= 3; s++) due("NULL, sheet " + s, x.write(0, 0, s), NULL);
        due("a finding", x.count(8), 1);
    }
}
