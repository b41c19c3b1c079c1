/** Sentences on rows of borrowers, one behind the other: Terms, promises 17 to 19. */
final class SaysOfTurns extends Checks {
    /** Five borrowers that leave an a as it is, and one. */
    private static final String IDLE = "g-g;g-g;g-g;g-g;g-g;";

    private static void row(String what, TuneLoans x, int tune, int notes, int... want) {
        due(what + ", how many", x.lend(tune, notes, NONE), want.length);
        for (int i = 0; i <= 2; i++) {
            due(what + ", turn " + i, x.lend(tune, notes, i), i < want.length ? want[i] : NONE);
        }
    }

    private static void noRow(String what, TuneLoans x, int tune, int notes) {
        for (int i = -1; i <= 2; i++) due(what + ", " + i, x.lend(tune, notes, i), NONE);
    }

    private static void longestRow(String what, TuneLoans x, int tune, int size, int... want) {
        due(what + ", how many", x.longest(tune, want.length, NONE), size);
        for (int i = 0; i < want.length; i++) due(what + ", turn " + i, x.longest(tune, want.length, i), want[i]);
    }

    private static void who(String what, TuneLoans x, int tune, int other, int many, int row) {
        due(what + ", how many", x.who(tune, other, 0), many);
        due(what + ", the row", x.who(tune, other, 1), row);
    }

    // ---- turns

    @Says("TURNS of a TUNE as told: a row of BORROWERS, one behind the other (0 to 3), each HUMS it once.")
    static void turnsBeginWithWhatWasTold() {
        TuneLoans x = bank("a", "a+b;a/c");
        x.ear(0);
        x.loan(0, 0, 1, 1);
        due("it is a c in all years", x.notes(0, 0, 0), 2);
        row("b is hummed into the a", x, 0, 3, 0);
        longestRow("of the a", x, 0, 2, 0);
        who("an a it is", x, 0, 0, 1, 0);
    }

    @Says("TURNS of a TUNE as told: a row of BORROWERS, one behind the other (0 to 3), each HUMS it once.")
    static void fromNoneToThree() {
        TuneLoans x = bank("a", "a+b;b+c;c+d;d+e");
        row("none", x, 0, 1);
        row("one", x, 0, 2, 0);
        row("two", x, 0, 4, 0, 1);
        row("three", x, 0, 8, 0, 1, 2);
        noRow("four would do", x, 0, 16);
    }

    @Says("TURNS of a TUNE as told: a row of BORROWERS, one behind the other (0 to 3), each HUMS it once.")
    static void oneMayComeAgain() {
        TuneLoans x = bank("a", "a+b;g-g");
        longestRow("the same one three times", x, 0, 4, 0, 0, 0);
    }

    @Says("TURNS of a TUNE as told: a row of BORROWERS, one behind the other (0 to 3), each HUMS it once.")
    static void whatWasAskedBeforeHasNoSay() {
        TuneLoans x = bank("a;aa;b", "a+a");
        for (int k = 0; k < 2; k++) {
            longestRow("of the first", x, 0, 2, 0);
            longestRow("of the second", x, 1, 4, 0);
            longestRow("of the third", x, 2, 1, 0);
            who("from the first to the second", x, 0, 1, 1, 1);
            who("not from the third to the second", x, 2, 1, 0, NONE);
        }
        x.wipe(1);
        typed(x, 1, "b+b");
        longestRow("of the first by another one", x, 0, 1, 0);
        longestRow("of the third by another one", x, 2, 2, 0);
    }

    @Says("TURNS of a TUNE as told: a row of BORROWERS, one behind the other (0 to 3), each HUMS it once.")
    static void fortyNotesInEachTurnAtMost() {
        TuneLoans x = bank("aaaaaaaaaaab;aaaaaaaaaaaa", "a+a;a/c;b+d");
        longestRow("48 would come", x, 0, 40, 0, 0);
        row("its b is there at first", x, 0, 10, 2);
        longestRow("as it is behind three", x, 1, 40, 0, 0, 0);
    }

    // ---- lend

    @Says("LEND: the row of the fewest by which it has all of told NOTES (as bits of a to g)")
    static void bitsOfAToG() {
        TuneLoans x = bank("abcdefg", "");
        for (int bits = 0; bits <= 127; bits++) row("all are there, bits " + bits, x, 0, bits);
        for (int k = 0; k <= 6; k++) {
            TuneLoans y = bank(String.valueOf((char) ('a' + k)), "");
            for (int other = 0; other <= 6; other++) {
                due("note " + other + " of " + k, y.lend(0, 1 << other, NONE), other == k ? 0 : NONE);
            }
        }
    }

    @Says("LEND: the row of the fewest by which it has all of told NOTES (as bits of a to g)")
    static void allOfThemNotOneOfThem() {
        TuneLoans x = bank("ab", "a+c;b+d");
        row("one of two is there", x, 0, 1 + 4, 0);
        row("none of two is there", x, 0, 4 + 8, 0, 1);
        row("more than told may be there", x, 0, 8, 1);
    }

    @Says("LEND: the row of the fewest by which it has all of told NOTES (as bits of a to g)")
    static void noNotesNeedNoTurns() {
        row("of a tune", bank("g", "g-g"), 0, 0);
        row("without borrowers", bank("g", ""), 0, 0);
    }

    @Says("LEND: the row of the fewest by which it has all of told NOTES (as bits of a to g)")
    static void theFewestIsAheadOfTheLeast() {
        TuneLoans x = bank("a", "a+b;b+c;a+c");
        row("2 alone, ahead of 0 and 1", x, 0, 4, 2);
    }

    @Says("LEND: the row of the fewest by which it has all of told NOTES (as bits of a to g), of like ones the least: how many; the i-th; NONE.")
    static void ofLikeRowsTheLeast() {
        TuneLoans x = bank("a", "g-g;a+b;a+b;b+c;a+c;a+b");
        row("of one", x, 0, 2, 1);
        row("of two, by the first first", x, 0, 6, 1, 3);
        TuneLoans y = bank("a", "b+c;a+b;a+d");
        row("of three", y, 0, 15, 1, 0, 2);
    }

    @Says("LEND: the row of the fewest by which it has all of told NOTES (as bits of a to g), of like ones the least: how many; the i-th; NONE.")
    static void withinSixBorrowersToTheLast() {
        row("the last one", bank("abbb", IDLE + "a/c"), 0, 4, 5);
        TuneLoans x = bank("a", "a/b;b/c;c/d;g-g;g-g;d/e");
        row("three", x, 0, 8, 0, 1, 2);
        noRow("four would do", x, 0, 16);
        TuneLoans y = bank("ac", "g-g;g-g;g-g;a/d;d/e;e/f");
        row("three of the last", y, 0, 32 + 4, 3, 4, 5);
    }

    @Says("LEND: the row of the fewest by which it has all of told NOTES (as bits of a to g), of like ones the least: how many; the i-th; NONE.")
    static void lendByNoBorrowers() {
        TuneLoans x = bank("ab", "");
        row("what is there", x, 0, 3);
        noRow("what is not there", x, 0, 4);
        noRow("all", x, 0, 127);
    }

    // ---- longest

    @Says("LONGEST: of rows of so many (1 to 3) that by which it has most NOTES")
    static void rowsOfJustSoMany() {
        TuneLoans x = bank("ab", "a+a;b+b");
        longestRow("one", x, 0, 3, 0);
        longestRow("two", x, 0, 5, 0, 0);
        longestRow("three", x, 0, 9, 0, 0, 0);
        longestRow("it must be hummed, though it becomes less", bank("ab", "a-a;b-b"), 0, 1, 0, 0);
        longestRow("three times", bank("abc", "a-a;b-b;c-c"), 0, 2, 0, 0, 0);
    }

    @Says("LONGEST: of rows of so many (1 to 3) that by which it has most NOTES, of like ones the least: how many NOTES; the i-th;")
    static void ofLikeLongOnesTheLeast() {
        TuneLoans x = bank("a;bb", "g-g;a+b;a+c;b+b");
        longestRow("one", x, 0, 2, 1);
        longestRow("two: a b b", x, 0, 3, 1, 1);
        longestRow("three: a b b, then both b twice", x, 0, 5, 1, 1, 3);
        longestRow("of the other one", x, 1, 4, 3);
        longestRow("all are alike", bank("a", IDLE + "f-f"), 0, 1, 0, 0, 0);
    }

    @Says("LONGEST: of rows of so many (1 to 3) that by which it has most NOTES, of like ones the least: how many NOTES; the i-th;")
    static void longestByTheLastBorrower() {
        longestRow("one", bank("a", IDLE + "a+b"), 0, 2, 5);
        longestRow("two", bank("a", IDLE + "a+b"), 0, 3, 5, 5);
        longestRow("three", bank("a", IDLE + "a+b"), 0, 4, 5, 5, 5);
    }

    @Says("LONGEST: of rows of so many (1 to 3) that by which it has most NOTES, of like ones the least: how many NOTES; the i-th;")
    static void longestMayBeNoNotesAndForty() {
        longestRow("no notes", bank("a", "a-a"), 0, 0, 0, 0);
        longestRow("forty", bank("aaaaaaaaaaaa", "a+a"), 0, 40, 0, 0);
        longestRow("40 and cut ones are alike", bank("aaaaaaaaaaaa;aaaaa", "a+b;a+a"), 0, 40, 1, 0);
        longestRow("forty at last", bank("aaaaa", "a+a"), 0, 40, 0, 0, 0);
    }

    @Says("NONE: there are no BORROWERS.")
    static void longestByNoBorrowers() {
        TuneLoans x = bank("a", "");
        for (int n = 1; n <= 3; n++) {
            for (int i = -1; i < n; i++) due("n " + n + ", i " + i, x.longest(0, n, i), NONE);
        }
        typed(x, 1, "g-g");
        due("by one that leaves it", x.longest(0, 3, NONE), 1);
    }

    // ---- who

    @Says("WHO: rows (0 to 3) of BORROWERS by which one TUNE as told becomes another one (perhaps itself): how many;")
    static void rowsOfAllSizesCount() {
        who("none, and three of one", bank("a", "g-g"), 0, 0, 4, 0);
        who("all 259", bank("a", IDLE + "g-g"), 0, 0, 259, 0);
        who("of two: 1, 2, 4, 8", bank("a", "g-g;f-f"), 0, 0, 15, 0);
        who("none hums without borrowers", bank("a", ""), 0, 0, 1, 0);
        who("four turns would do", bank("a;abbbb", "a+b"), 0, 1, 0, NONE);
        who("three do", bank("a;abbb", "a+b"), 0, 1, 1, 57);
    }

    @Says("WHO: rows (0 to 3) of BORROWERS by which one TUNE as told becomes another one (perhaps itself): how many;")
    static void itMustBeTheVerySame() {
        TuneLoans x = bank("a;ab;ba;abb;b", "a+b");
        who("ab", x, 0, 1, 1, 1);
        who("not turned", x, 0, 2, 0, NONE);
        who("abb", x, 0, 3, 1, 8);
        who("no b alone", x, 0, 4, 0, NONE);
        who("longer than the other", x, 3, 0, 0, NONE);
        who("twelve and one", bank("aaaaaaaaaaab;aaaaaaaaaaaa", "b/a"), 0, 1, 3, 1);
        who("the last note", bank("aaaaaaaaaaab;aaaaaaaaaaac", "b/a"), 0, 1, 0, NONE);
    }

    @Says("that of the fewest, of like ones the least, as figures to the base 7, the first ahead, each BORROWER and 1 (0: none hums); NONE.")
    static void figuresToTheBase7() {
        who("the least of one", bank("a;b", "a/b"), 0, 1, 3, 1);
        who("the greatest of one", bank("a;ab", IDLE + "a+b"), 0, 1, 1 + 10 + 75, 6);
        who("the least of two", bank("a;abb", "a+b"), 0, 1, 1, 8);
        who("the greatest of two", bank("a;abb", IDLE + "a+b"), 0, 1, 1 + 15, 48);
        who("the least of three", bank("a;abbb", "a+b"), 0, 1, 1, 57);
        who("the greatest of three", bank("a;abbb", IDLE + "a+b"), 0, 1, 1, 342);
    }

    @Says("that of the fewest, of like ones the least, as figures to the base 7, the first ahead, each BORROWER and 1 (0: none hums); NONE.")
    static void theFirstAhead() {
        who("0, 1, 2", bank("a;d", "a/b;b/c;c/d"), 0, 1, 1, 49 + 14 + 3);
        who("2, 1, 0", bank("a;d", "c/d;b/c;a/b"), 0, 1, 1, 147 + 14 + 1);
        who("5, 0", bank("a;c", "b/c;g-g;g-g;g-g;g-g;a/b"), 0, 1, 17, 42 + 1);
    }

    @Says("that of the fewest, of like ones the least, as figures to the base 7, the first ahead, each BORROWER and 1 (0: none hums); NONE.")
    static void theFewestThenTheLeastRow() {
        TuneLoans x = bank("a;c", "a/b;b/c;g-g;a/c;a/c");
        due("3 alone, ahead of 0 and 1", x.who(0, 1, 1), 4);
        TuneLoans y = bank("a;c", "b/c;a/d;a/b;d/c");
        who("1 and 3 ahead of 2 and 0", y, 0, 1, 2 + 18, 14 + 4);
    }

    @Says("that of the fewest, of like ones the least, as figures to the base 7, the first ahead, each BORROWER and 1 (0: none hums); NONE.")
    static void noneIsNoRowAndZeroIsNoTurn() {
        who("itself: none hums", bank("a;b", "a/b"), 0, 0, 1, 0);
        who("its like: none hums", bank("a;a", "a/b"), 0, 1, 1, 0);
        who("no row", bank("a;c", "a/b"), 0, 1, 0, NONE);
        who("no borrowers", bank("a;c", ""), 0, 1, 0, NONE);
    }

    // ---- promise 17: lend

    @Says(promise = 17, value = "LEND: how many (i = NONE), the i-th (0 to 2; NONE).")
    static void turnsOfLendAre0To2() {
        TuneLoans x = bank("a", "a+b;b+c;c+d");
        due("how many", x.lend(0, 15, NONE), 3);
        for (int i = 0; i <= 2; i++) {
            due("turn " + i + " of three", x.lend(0, 15, i), i);
            due("turn " + i + " of two", x.lend(0, 7, i), i <= 1 ? i : NONE);
            due("turn " + i + " of one", x.lend(0, 3, i), i == 0 ? 0 : NONE);
            due("turn " + i + " of none", x.lend(0, 1, i), NONE);
            due("turn " + i + " of no row", x.lend(0, 16, i), NONE);
        }
    }

    @Says(promise = 17, value = "BAD (bits 0 to 127).")
    static void lendForNoSuchBits() {
        TuneLoans x = bank("abcdefg", "");
        due("bits -1", x.lend(0, -1, NONE), BAD);
        due("bits 128", x.lend(0, 128, NONE), BAD);
        for (int far : FAR_OUT) due("bits far out", x.lend(0, far, NONE), BAD);
        due("bits 0", x.lend(0, 0, NONE), 0);
        due("bits 127", x.lend(0, 127, NONE), 0);
    }

    @Says(promise = 17, value = "BAD (bits 0 to 127).")
    static void lendOfNoSuchTurn() {
        TuneLoans x = bank("a", "a+b");
        due("i -2", x.lend(0, 1, -2), BAD);
        due("i 3", x.lend(0, 1, 3), BAD);
        for (int far : FAR_OUT) due("i far out", x.lend(0, 1, far), BAD);
    }

    @Says(promise = 17, value = "BAD (bits 0 to 127).")
    static void lendOfNoSuchTune() {
        TuneLoans x = bank("a;b;c;d;e;f", "a+b");
        due("tune -1", x.lend(-1, 0, NONE), BAD);
        due("tune 6 of six", x.lend(6, 0, NONE), BAD);
        due("tune 5 of six", x.lend(5, 32, NONE), 0);
        for (int far : FAR_OUT) due("tune far out", x.lend(far, 0, NONE), BAD);
        due("tune 0 of none", new TuneLoans().lend(0, 0, NONE), BAD);
    }

    // ---- promise 18: longest

    @Says(promise = 18, value = "LONGEST: how many NOTES (i = NONE), the i-th BORROWER (0 to n less 1); NONE.")
    static void turnsOfLongestAre0ToNLess1() {
        TuneLoans x = bank("a", "g-g;a+b");
        for (int n = 1; n <= 3; n++) {
            due("i -2 of " + n, x.longest(0, n, -2), BAD);
            due("notes of " + n, x.longest(0, n, NONE), 1 + n);
            for (int i = 0; i < n; i++) due("i " + i + " of " + n, x.longest(0, n, i), 1);
            due("i " + n + " of " + n, x.longest(0, n, n), BAD);
        }
        for (int far : FAR_OUT) due("i far out", x.longest(0, 3, far), BAD);
    }

    @Says(promise = 18, value = "BAD.")
    static void longestOfNoSuchNumber() {
        TuneLoans x = bank("a", "a+b");
        due("n 0", x.longest(0, 0, NONE), BAD);
        due("n 4", x.longest(0, 4, NONE), BAD);
        due("n -1", x.longest(0, -1, NONE), BAD);
        for (int far : FAR_OUT) due("n far out", x.longest(0, far, NONE), BAD);
    }

    @Says(promise = 18, value = "BAD.")
    static void longestOfNoSuchTune() {
        TuneLoans x = bank("a;b;c;d;e;f", "a+b");
        due("tune -1", x.longest(-1, 1, NONE), BAD);
        due("tune 6 of six", x.longest(6, 1, NONE), BAD);
        due("tune 5 of six", x.longest(5, 1, NONE), 1);
        for (int far : FAR_OUT) due("tune far out", x.longest(far, 1, NONE), BAD);
        due("tune 0 of none", new TuneLoans().longest(0, 1, NONE), BAD);
    }

    @Says(promise = 18, value = "BAD.")
    static void badIsAheadOfNoBorrowers() {
        TuneLoans x = bank("a", "");
        due("i", x.longest(0, 2, 2), BAD);
        due("n", x.longest(0, 4, NONE), BAD);
        due("tune", x.longest(1, 1, NONE), BAD);
    }

    // ---- promise 19: who

    @Says(promise = 19, value = "WHO: how many (what = 0), the row (1); NONE.")
    static void howManyMayBe0AndTheRowNone() {
        TuneLoans x = bank("a;b;c", "a/b");
        who("three rows", x, 0, 1, 3, 1);
        who("no rows", x, 0, 2, 0, NONE);
        who("there is no way back", x, 1, 0, 0, NONE);
    }

    @Says(promise = 19, value = "BAD.")
    static void whoOfNoSuchTunes() {
        TuneLoans x = bank("a;b;c;d;e;f", "e/f");
        int[] none = {-1, 6, Integer.MIN_VALUE, Integer.MAX_VALUE};
        for (int t : none) {
            due("tune " + t, x.who(t, 0, 0), BAD);
            due("other " + t, x.who(0, t, 0), BAD);
        }
        due("the last two", x.who(4, 5, 1), 1);
        due("tune 0 of none", new TuneLoans().who(0, 0, 0), BAD);
    }

    @Says(promise = 19, value = "BAD.")
    static void whoOfNoSuchWhat() {
        TuneLoans x = bank("a", "a+b");
        due("what -1", x.who(0, 0, -1), BAD);
        due("what 2", x.who(0, 0, 2), BAD);
        for (int far : FAR_OUT) due("what far out", x.who(0, 0, far), BAD);
    }
}
