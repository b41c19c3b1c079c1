/** Sentences on tunes and borrowers as texts: Terms, promises 1 to 7. */
final class SaysOfTexts extends Checks {
    private static final String SIX = "a;b;c;d;e;f";
    private static final String SIX_BORROWERS = "a+b;b-c;c/d;d+e;e-f;f/g";
    private static final String TWELVE = "abcdefgabcde";

    private static void fault(int text, String bytes, int want) {
        TuneLoans x = new TuneLoans();
        typed(x, text, bytes);
        due("fault of '" + bytes + "'", x.fault(text), want);
    }

    private static boolean isNote(int b) {
        return b >= 97 && b <= 103;
    }

    /** Looks at every byte behind a beginning: its place is the fault, but for those that are well there. */
    private static void everyByteBehind(int text, String begun, int ofNote, int ofSeparator, int ofSign) {
        for (int b = 0; b <= 255; b++) {
            TuneLoans x = new TuneLoans();
            typed(x, text, begun);
            x.type(text, b);
            int want = isNote(b) ? ofNote : b == ';' ? ofSeparator
                : b == '+' || b == '-' || b == '/' ? ofSign : begun.length();
            due("fault of '" + begun + "' and byte " + b, x.fault(text), want);
        }
    }

    // ---- tunes as a text

    @Says("TUNES are a text of up to 59 bytes (text 0)")
    static void ofTunesThereAre59BytesAndNoMore() {
        TuneLoans x = new TuneLoans();
        for (int k = 1; k <= 59; k++) due("byte " + k, x.type(0, 'z'), k);
        due("byte 60", x.type(0, 'z'), FULL);
        due("bytes", x.count(2), 59);
        due("bytes of the other text", x.count(3), 0);
    }

    @Says("TUNES are a text of up to 59 bytes (text 0)")
    static void all59BytesAreRead() {
        TuneLoans x = bank("aaaaaaaaa;bbbbbbbbb;ccccccccc;ddddddddd;eeeeeeeee;ffffffffg", "");
        due("bytes", x.count(2), 59);
        due("fault", x.fault(0), NONE);
        due("notes", x.count(7), 54);
        due("the last note", x.tune(5, 8), 6);
    }

    @Says("TUNES are a text of up to 59 bytes (text 0), 6 at most (0 on), with ; between them")
    static void sixTunesFrom0On() {
        for (int many = 1; many <= 6; many++) {
            TuneLoans x = bank(SIX.substring(0, 2 * many - 1), "");
            due("how many of " + many, x.count(0), many);
            due("tune -1", x.tune(-1, 0), BAD);
            for (int t = 0; t < many; t++) due("tune " + t + " of " + many, x.tune(t, 0), t);
            due("tune " + many + " of " + many, x.tune(many, 0), BAD);
        }
    }

    @Says("TUNES are a text of up to 59 bytes (text 0), 6 at most (0 on), with ; between them")
    static void aSeventhTuneIsAFault() {
        TuneLoans x = bank(SIX + ";g", "");
        due("tunes", x.count(0), 0);
        due("the first", x.tune(0, 0), BAD);
        x.undo(0);
        x.undo(0);
        due("six again", x.count(0), 6);
    }

    @Says("6 at most (0 on), with ; between them: 1 to 12 NOTES each, letters a to g (0 to 6).")
    static void nothingButASemicolonIsBetweenTunes() {
        everyByteBehind(0, "ab", NONE, 3, 2);
        fault(0, "a:b", 1);
        fault(0, "a<b", 1);
        fault(0, "a;b", NONE);
    }

    @Says("1 to 12 NOTES each, letters a to g (0 to 6).")
    static void oneNoteAndTwelveNotesAreATune() {
        TuneLoans x = bank("a;" + TWELVE + ";b", "");
        due("fault", x.fault(0), NONE);
        due("of one note", x.tune(0, NONE), 1);
        due("of twelve", x.tune(1, NONE), 12);
        due("the twelfth", x.tune(1, 11), 4);
        due("one behind twelve", x.tune(2, NONE), 1);
    }

    @Says("1 to 12 NOTES each, letters a to g (0 to 6).")
    static void noNoteIsNoTune() {
        fault(0, ";", 0);
        fault(0, ";a", 0);
        fault(0, "a;;", 2);
        fault(0, "a;;b", 2);
        due("tunes", bank("a;;b", "").count(0), 0);
    }

    @Says("1 to 12 NOTES each, letters a to g (0 to 6).")
    static void thirteenNotesAreNoTune() {
        TuneLoans x = bank(TWELVE + "f", "");
        due("tunes", x.count(0), 0);
        due("notes", x.count(7), 0);
    }

    @Says("1 to 12 NOTES each, letters a to g (0 to 6).")
    static void lettersFromAToG() {
        TuneLoans x = bank("abcdefg", "");
        for (int k = 0; k <= 6; k++) due("letter " + k, x.tune(0, k), k);
        fault(0, "`", 0);
        fault(0, "h", 0);
        fault(0, "A", 0);
        fault(0, "G", 0);
        fault(0, "a`", 1);
        fault(0, "gh", 1);
    }

    // ---- borrowers as a text

    @Says("BORROWERS are a text of up to 23 bytes (text 1)")
    static void ofBorrowersThereAre23BytesAndNoMore() {
        TuneLoans x = new TuneLoans();
        for (int k = 1; k <= 23; k++) due("byte " + k, x.type(1, 'z'), k);
        due("byte 24", x.type(1, 'z'), FULL);
        due("bytes", x.count(3), 23);
        due("bytes of the other text", x.count(2), 0);
    }

    @Says("BORROWERS are a text of up to 23 bytes (text 1)")
    static void all23BytesAreRead() {
        TuneLoans x = bank("", SIX_BORROWERS);
        due("bytes", x.count(3), 23);
        due("fault", x.fault(1), NONE);
        due("the last byte", x.borrower(5, 2), 6);
    }

    @Says("BORROWERS are a text of up to 23 bytes (text 1), 6 at most (0 on), with ; between them")
    static void sixBorrowersFrom0On() {
        for (int many = 1; many <= 6; many++) {
            TuneLoans x = bank("", SIX_BORROWERS.substring(0, 4 * many - 1));
            due("how many of " + many, x.count(1), many);
            due("borrower -1", x.borrower(-1, 0), BAD);
            for (int b = 0; b < many; b++) due("borrower " + b + " of " + many, x.borrower(b, 0), b);
            due("borrower " + many + " of " + many, x.borrower(many, 0), BAD);
        }
    }

    @Says("BORROWERS are a text of up to 23 bytes (text 1), 6 at most (0 on), with ; between them")
    static void nothingButASemicolonIsBetweenBorrowers() {
        everyByteBehind(1, "a+b", 3, 4, 3);
        everyByteBehind(1, "a+b;b-c;c/d;d+e;e-f", 19, 20, 19);
        fault(1, "a+b;b-c", NONE);
        fault(1, "a+b:b-c", 3);
    }

    @Says("a NOTE X, how it hums: + (behind each X comes a Y), - (each X goes), / (each X becomes a Y), and a NOTE Y.")
    static void xIsANoteFromAToG() {
        everyByteBehind(1, "", 1, 0, 0);
        everyByteBehind(1, "g-g;", 5, 4, 4);
        for (int k = 0; k <= 6; k++) due("X " + k, bank("", (char) ('a' + k) + "+c").borrower(0, 0), k);
    }

    @Says("a NOTE X, how it hums: + (behind each X comes a Y), - (each X goes), / (each X becomes a Y), and a NOTE Y.")
    static void itHumsByOneOfThreeSigns() {
        everyByteBehind(1, "a", 1, 1, 2);
        everyByteBehind(1, "g-g;b", 5, 5, 6);
    }

    @Says("a NOTE X, how it hums: + (behind each X comes a Y), - (each X goes), / (each X becomes a Y), and a NOTE Y.")
    static void yIsANoteFromAToG() {
        everyByteBehind(1, "a+", NONE, 2, 2);
        everyByteBehind(1, "g-g;b/", NONE, 6, 6);
        for (int k = 0; k <= 6; k++) due("Y " + k, bank("", "c/" + (char) ('a' + k)).borrower(0, 2), k);
    }

    @Says("+ (behind each X comes a Y)")
    static void byPlusAYComesBehindEachX() {
        TuneLoans x = bank("a;aba;bcd;abb", "a+b");
        for (int t = 0; t < 4; t++) x.loan(0, t, 0, 1);
        notes("X alone", x, 0, 0, "ab");
        notes("X first and last", x, 0, 1, "abbab");
        notes("no X", x, 0, 2, "bcd");
        notes("a Y there before", x, 0, 3, "abbb");
    }

    @Says("- (each X goes)")
    static void byMinusEachXGoes() {
        TuneLoans x = bank("a;aba;bcd;baab", "a-b");
        x.ear(0);
        for (int t = 0; t < 4; t++) x.loan(0, t, 0, 1);
        notes("X alone", x, 0, 0, "");
        notes("X first and last", x, 0, 1, "b");
        notes("no X", x, 0, 2, "bcd");
        notes("two X in the middle", x, 0, 3, "bb");
    }

    @Says("/ (each X becomes a Y)")
    static void bySlashEachXBecomesAY() {
        TuneLoans x = bank("a;aba;bcd;aaa", "a/c");
        x.ear(0);
        for (int t = 0; t < 4; t++) x.loan(0, t, 0, 1);
        notes("X alone", x, 0, 0, "c");
        notes("X first and last", x, 0, 1, "cbc");
        notes("no X", x, 0, 2, "bcd");
        notes("all of them X", x, 0, 3, "ccc");
    }

    @Says("a NOTE X, how it hums: + (behind each X comes a Y), - (each X goes), / (each X becomes a Y), and a NOTE Y.")
    static void xAndYMayBeTheSame() {
        TuneLoans x = bank("aba", "a+a;a/a;a-a");
        x.loan(0, 0, 0, 1);
        notes("plus", x, 0, 0, "aabaa");
        x.loan(1, 0, 1, 1);
        notes("slash", x, 1, 0, "aabaa");
        x.ear(0);
        x.loan(2, 0, 2, 1);
        notes("minus", x, 2, 0, "b");
    }

    // ---- the fault

    @Says("The FAULT of a text is the place of the first byte with which it cannot go on")
    static void theFirstOfTwoPlacesIsTheFault() {
        fault(0, "az;;", 1);
        fault(0, "z;;", 0);
        fault(1, "a+bb;", 3);
        fault(1, "a*b*", 1);
    }

    @Says("The FAULT of a text is the place of the first byte with which it cannot go on")
    static void theFirstPlaceIs0() {
        everyByteBehind(0, "", NONE, 0, 0);
        fault(1, ";", 0);
        fault(1, "+", 0);
    }

    @Says("The FAULT of a text is the place of the first byte with which it cannot go on")
    static void theLastPlaceIs58And22() {
        fault(0, "aaaaaaaaa;bbbbbbbbb;ccccccccc;ddddddddd;eeeeeeeee;ffffffffz", 58);
        fault(1, "a+b;b-c;c/d;d+e;e-f;f/h", 22);
    }

    @Says("The FAULT of a text is the place of the first byte with which it cannot go on")
    static void whatComesBehindAFaultDoesNotMoveIt() {
        TuneLoans x = bank("ab+", "a+b+");
        for (int k = 0; k < 5; k++) {
            due("of tunes", x.fault(0), 2);
            due("of borrowers", x.fault(1), 3);
            x.type(0, 'a');
            x.type(1, ';');
        }
    }

    @Says("(an empty one is well; of one that is not ended, its end)")
    static void anEmptyTextIsWell() {
        TuneLoans x = new TuneLoans();
        for (int text = 0; text <= 1; text++) {
            due("new " + text, x.fault(text), NONE);
            x.type(text, 'z');
            due("with a byte " + text, x.fault(text), 0);
            x.undo(text);
            due("undone " + text, x.fault(text), NONE);
            x.type(text, 'z');
            x.wipe(text);
            due("wiped " + text, x.fault(text), NONE);
        }
    }

    @Says("(an empty one is well; of one that is not ended, its end)")
    static void ofTunesThatAreNotEndedItIsTheirEnd() {
        fault(0, "a;", 2);
        fault(0, TWELVE + ";", 13);
        fault(0, "a;b;c;d;e;", 10);
        fault(0, "aaaaaaaaa;bbbbbbbbb;ccccccccc;ddddddddd;eeeeeeeee;ffffffff;", 59);
        fault(0, TWELVE + ";" + TWELVE + ";" + TWELVE + ";" + TWELVE + ";abcdef;", 59);
    }

    @Says("(an empty one is well; of one that is not ended, its end)")
    static void ofBorrowersThatAreNotEndedItIsTheirEnd() {
        for (int size = 1; size <= 23; size++) {
            boolean ended = size % 4 == 3;
            fault(1, SIX_BORROWERS.substring(0, size), ended ? NONE : size);
        }
    }

    @Says("here also of a thirteenth NOTE, or of the first byte of a seventh.")
    static void itIsThePlaceOfAThirteenthNote() {
        fault(0, TWELVE, NONE);
        fault(0, TWELVE + "a", 12);
        fault(0, TWELVE + "ab", 12);
        fault(0, "g;" + TWELVE + "g", 14);
        everyByteBehind(0, TWELVE, 12, 13, 12);
        everyByteBehind(0, "abcdefgabcd", NONE, 12, 11);
    }

    @Says("here also of a thirteenth NOTE, or of the first byte of a seventh.")
    static void itIsThePlaceOfTheFirstByteOfASeventh() {
        fault(0, SIX, NONE);
        fault(0, SIX + ";", 12);
        fault(0, SIX + ";a", 12);
        fault(0, SIX + ";abc", 12);
        everyByteBehind(0, SIX + ";", 12, 12, 12);
        everyByteBehind(0, "a;b;c;d;e;", NONE, 10, 10);
    }

    @Says("With a FAULT a text is as if it was empty.")
    static void withAFaultThereAreNoTunes() {
        TuneLoans x = bank("abc;de;", "a+b");
        x.loan(0, 0, 0, 9);
        due("tunes", x.count(0), 0);
        due("notes", x.count(7), 0);
        due("loans that count", x.count(5), 0);
        due("tune", x.tune(0, NONE), BAD);
        due("notes behind a year", x.notes(0, 0, NONE), BAD);
        due("has", x.has(0, 0), BAD);
        due("came", x.came(0, 0), 0);
        due("interest", x.interest(39), 0);
        due("home", x.home(0), 0);
        due("lend", x.lend(0, 0, NONE), BAD);
        due("common", x.common(0, 0), BAD);
        due("hums", x.hums(1, 0, 0, 1, 1, 0), NO_LONG);
        due("fair", x.fair(1, 1, 0), BAD);
        x.undo(0);
        due("tunes without the fault", x.count(0), 2);
        due("the loan counts again", x.came(0, 0), 1);
    }

    @Says("With a FAULT a text is as if it was empty.")
    static void withAFaultThereAreNoBorrowers() {
        TuneLoans x = bank("abc;de", "a+b;b-");
        x.loan(0, 0, 0, 9);
        due("borrowers", x.count(1), 0);
        due("borrower", x.borrower(0, 0), BAD);
        due("loans that count", x.count(5), 0);
        due("notes", x.notes(39, 0, NONE), 3);
        due("has", x.has(0, 0), NONE);
        due("lend of what is there", x.lend(0, 7, NONE), 0);
        due("lend of what is not", x.lend(1, 7, NONE), NONE);
        due("longest", x.longest(0, 1, NONE), NONE);
        due("who, itself", x.who(0, 0, 0), 1);
        due("hums", x.hums(1, 0, 0, 1, 1, 0), NO_LONG);
        due("fair", x.fair(7, 40, 0), 3);
        x.type(1, 'b');
        due("borrowers without the fault", x.count(1), 2);
        due("the loan counts", x.came(0, 0), 1);
    }

    @Says("With a FAULT a text is as if it was empty.")
    static void aFaultOfOneTextLeavesTheOther() {
        TuneLoans x = bank("abc;", "a+b");
        due("borrowers", x.count(1), 1);
        due("X", x.borrower(0, 0), 0);
        TuneLoans y = bank("abc", "a+b;");
        due("tunes", y.count(0), 1);
        due("notes", y.tune(0, NONE), 3);
    }

    @Says("With a FAULT a text is as if it was empty.")
    static void itsBytesAreThereYet() {
        TuneLoans x = bank("a;", "a+");
        due("bytes of tunes", x.count(2), 2);
        due("bytes of borrowers", x.count(3), 2);
        due("one more", x.type(0, 'b'), 3);
        due("one less", x.undo(1), 1);
        due("all of them", x.wipe(1), 1);
    }

    // ---- promise 1: a new object

    @Says(promise = 1, value = "No TUNES, no BORROWERS; all SHEETS are LOST.")
    static void aNewObjectHasNoTunes() {
        TuneLoans x = new TuneLoans();
        due("tunes", x.count(0), 0);
        due("notes", x.count(7), 0);
        due("bytes", x.count(2), 0);
        due("tune 0", x.tune(0, NONE), BAD);
        due("wipe", x.wipe(0), 0);
    }

    @Says(promise = 1, value = "No TUNES, no BORROWERS; all SHEETS are LOST.")
    static void aNewObjectHasNoBorrowers() {
        TuneLoans x = new TuneLoans();
        due("borrowers", x.count(1), 0);
        due("bytes", x.count(3), 0);
        due("borrower 0", x.borrower(0, 0), BAD);
        due("wipe", x.wipe(1), 0);
    }

    @Says(promise = 1, value = "No TUNES, no BORROWERS; all SHEETS are LOST.")
    static void aNewObjectHasNoSheet() {
        for (int s = 0; s <= 3; s++) due("lose " + s, new TuneLoans().lose(s), NULL);
    }

    @Says(promise = 1, value = "No TUNES, no BORROWERS; all SHEETS are LOST.")
    static void aNewObjectHasNoLoansEither() {
        TuneLoans x = new TuneLoans();
        due("loans", x.count(4), 0);
        due("that count", x.count(5), 0);
        due("ear", x.count(6), 2);
        due("finding", x.count(8), 0);
        due("back", x.back(), NOT);
    }

    @Says(promise = 1, value = "No TUNES, no BORROWERS; all SHEETS are LOST.")
    static void oneObjectTellsAnotherNothing() {
        TuneLoans one = bank("a", "a+b");
        one.loan(0, 0, 0, 1);
        one.ear(7);
        one.sheet(0, 0, 5);
        due("a new one", new TuneLoans().digest(), digestByCalls(new TuneLoans()));
        due("its tunes", new TuneLoans().count(0), 0);
        due("its ear", new TuneLoans().count(6), 2);
        due("its sheet", new TuneLoans().lose(0), NULL);
    }

    // ---- promise 2: type

    @Says(promise = 2, value = "A byte (0 to 255) comes behind a text: how many.")
    static void aByteIsFrom0To255() {
        TuneLoans x = new TuneLoans();
        due("byte 0", x.type(0, 0), 1);
        due("byte 255", x.type(0, 255), 2);
        due("byte -1", x.type(0, -1), BAD);
        due("byte 256", x.type(0, 256), BAD);
        for (int far : FAR_OUT) due("byte far out", x.type(0, far), BAD);
        due("a letter and 256", x.type(0, 'a' + 256), BAD);
        due("how many", x.count(2), 2);
    }

    @Says(promise = 2, value = "A byte (0 to 255) comes behind a text: how many.")
    static void itComesBehind() {
        TuneLoans x = bank("ab", "");
        due("how many", x.type(0, 'c'), 3);
        due("the first stays", x.tune(0, 0), 0);
        due("it is the last", x.tune(0, 2), 2);
        due("the first of the other text", x.type(1, 'a'), 1);
    }

    @Says(promise = 2, value = "BAD; FULL.")
    static void textsAre0And1() {
        TuneLoans x = new TuneLoans();
        due("text -1", x.type(-1, 'a'), BAD);
        due("text 2", x.type(2, 'a'), BAD);
        for (int far : FAR_OUT) due("text far out", x.type(far, 'a'), BAD);
        due("bytes", x.count(2) + x.count(3), 0);
    }

    @Says(promise = 2, value = "BAD; FULL.")
    static void aFullTextTakesNoMore() {
        TuneLoans x = bank("a".repeat(59), "a".repeat(23));
        for (int k = 0; k < 3; k++) {
            due("tunes", x.type(0, 'a'), FULL);
            due("borrowers", x.type(1, 'a'), FULL);
        }
        due("bytes of tunes", x.count(2), 59);
        due("bytes of borrowers", x.count(3), 23);
        x.undo(0);
        due("there is room again", x.type(0, 'a'), 59);
        due("and none", x.type(0, 'a'), FULL);
    }

    @Says(promise = 2, value = "BAD; FULL.")
    static void badByteIsAheadOfFull() {
        TuneLoans x = bank("a".repeat(59), "a".repeat(23));
        due("byte -1", x.type(0, -1), BAD);
        due("byte 256", x.type(0, 256), BAD);
        due("byte 256 of borrowers", x.type(1, 256), BAD);
        due("no such text", x.type(2, 'a'), BAD);
    }

    // ---- promise 3: wipe

    @Says(promise = 3, value = "A text is empty: how many bytes it had.")
    static void wipeTellsFrom0ToAll() {
        due("tunes of none", new TuneLoans().wipe(0), 0);
        due("borrowers of none", new TuneLoans().wipe(1), 0);
        due("tunes of one", bank("a", "").wipe(0), 1);
        due("all tunes", bank("a".repeat(59), "").wipe(0), 59);
        due("all borrowers", bank("", SIX_BORROWERS).wipe(1), 23);
        TuneLoans x = bank("abc", "a+b");
        x.wipe(0);
        due("again", x.wipe(0), 0);
        due("the other one", x.count(3), 3);
        due("tunes", x.count(0), 0);
        due("one from the beginning", x.type(0, 'g'), 1);
        due("it alone", x.tune(0, 0), 6);
    }

    @Says(promise = 3, value = "BAD.")
    static void wipeOfNoSuchText() {
        TuneLoans x = bank("abc", "a+b");
        due("text -1", x.wipe(-1), BAD);
        due("text 2", x.wipe(2), BAD);
        for (int far : FAR_OUT) due("text far out", x.wipe(far), BAD);
        due("both stay", x.count(2) + x.count(3), 6);
    }

    // ---- promise 4: undo

    @Says(promise = 4, value = "The last byte of a text is undone: how many are left.")
    static void undoTellsWhatIsLeftDownTo0() {
        TuneLoans x = bank("a".repeat(59), SIX_BORROWERS);
        for (int left = 58; left >= 0; left--) due("tunes", x.undo(0), left);
        for (int left = 22; left >= 0; left--) due("borrowers", x.undo(1), left);
        due("tunes left", x.count(0), 0);
    }

    @Says(promise = 4, value = "The last byte of a text is undone: how many are left.")
    static void aFaultGoesWithItsByte() {
        TuneLoans x = bank("ab;", "a+bz");
        x.undo(0);
        x.undo(1);
        due("of tunes", x.fault(0), NONE);
        due("of borrowers", x.fault(1), NONE);
        due("the notes left", x.tune(0, NONE), 2);
        due("the borrower left", x.borrower(0, 2), 1);
    }

    @Says(promise = 4, value = "BAD; NOT: it is empty.")
    static void undoOfNoSuchText() {
        TuneLoans x = new TuneLoans();
        due("text -1", x.undo(-1), BAD);
        due("text 2", x.undo(2), BAD);
        for (int far : FAR_OUT) due("text far out", x.undo(far), BAD);
    }

    @Says(promise = 4, value = "BAD; NOT: it is empty.")
    static void undoOfAnEmptyText() {
        TuneLoans x = bank("a", "");
        due("borrowers", x.undo(1), NOT);
        due("to none", x.undo(0), 0);
        due("of none", x.undo(0), NOT);
        due("once more", x.undo(0), NOT);
        due("bytes", x.count(2), 0);
    }

    // ---- promise 5: fault

    @Says(promise = 5, value = "The FAULT of a text; NONE.")
    static void faultOfWellOnes() {
        String[] tunes = {"", "a", "g", TWELVE, SIX, TWELVE + ";" + TWELVE + ";" + TWELVE + ";" + TWELVE};
        for (String text : tunes) fault(0, text, NONE);
        String[] borrowers = {"", "a+a", "g/g", "a+b;c-d", SIX_BORROWERS};
        for (String text : borrowers) fault(1, text, NONE);
    }

    @Says(promise = 5, value = "BAD.")
    static void faultOfNoSuchText() {
        due("text -1", new TuneLoans().fault(-1), BAD);
        due("text 2", new TuneLoans().fault(2), BAD);
        for (int far : FAR_OUT) due("text far out", new TuneLoans().fault(far), BAD);
    }

    // ---- promise 6: tune

    @Says(promise = 6, value = "Of a TUNE as told how many NOTES (i = NONE), the i-th (0 to 11; NONE).")
    static void placesOfNotesAre0To11() {
        TuneLoans x = bank("abcdefgabcd;" + TWELVE, "");
        due("eleven", x.tune(0, NONE), 11);
        due("the eleventh", x.tune(0, 10), 3);
        due("no twelfth", x.tune(0, 11), NONE);
        due("twelve", x.tune(1, NONE), 12);
        due("the first", x.tune(1, 0), 0);
        due("the twelfth", x.tune(1, 11), 4);
    }

    @Says(promise = 6, value = "Of a TUNE as told how many NOTES (i = NONE), the i-th (0 to 11; NONE).")
    static void aTuneAsToldIsNotHummed() {
        TuneLoans x = bank("ab", "a+c");
        x.loan(0, 0, 0, 9);
        due("how many", x.tune(0, NONE), 2);
        due("the second", x.tune(0, 1), 1);
        due("no third", x.tune(0, 2), NONE);
    }

    @Says(promise = 6, value = "BAD.")
    static void tuneOfNoSuchPlace() {
        TuneLoans x = bank(TWELVE, "");
        due("i -2", x.tune(0, -2), BAD);
        due("i 12", x.tune(0, 12), BAD);
        for (int far : FAR_OUT) due("i far out", x.tune(0, far), BAD);
    }

    @Says(promise = 6, value = "BAD.")
    static void tuneOfNoSuchTune() {
        TuneLoans x = bank(SIX, "");
        due("tune -1", x.tune(-1, 0), BAD);
        due("tune 6", x.tune(6, 0), BAD);
        for (int far : FAR_OUT) due("tune far out", x.tune(far, 0), BAD);
        due("no tune at all", new TuneLoans().tune(0, 0), BAD);
    }

    // ---- promise 7: borrower

    @Says(promise = 7, value = "X (what = 0), how it hums (1: 0 +, 1 -, 2 /), Y (2) of a BORROWER.")
    static void threeThingsOfABorrower() {
        TuneLoans x = bank("", "a+g;g-a;d/d");
        int[][] want = {{0, 0, 6}, {6, 1, 0}, {3, 2, 3}};
        for (int b = 0; b < 3; b++) {
            for (int what = 0; what < 3; what++) due("borrower " + b + ", " + what, x.borrower(b, what), want[b][what]);
        }
    }

    @Says(promise = 7, value = "BAD.")
    static void borrowerOfNoSuchWhat() {
        TuneLoans x = bank("", "a+b");
        due("what -1", x.borrower(0, -1), BAD);
        due("what 3", x.borrower(0, 3), BAD);
        for (int far : FAR_OUT) due("what far out", x.borrower(0, far), BAD);
    }

    @Says(promise = 7, value = "BAD.")
    static void borrowerOfNoSuchBorrower() {
        TuneLoans x = bank("", SIX_BORROWERS);
        due("borrower -1", x.borrower(-1, 0), BAD);
        due("borrower 6", x.borrower(6, 0), BAD);
        for (int far : FAR_OUT) due("borrower far out", x.borrower(far, 0), BAD);
        due("no borrower at all", new TuneLoans().borrower(0, 0), BAD);
    }
}
