/** Sentences on humming, loans and the ear: Terms, promises 8 to 11. */
final class SaysOfLoans extends Checks {
    /** One tune that one loan from year 0 on takes to the first borrower for so many years. */
    private static TuneLoans lent(String tune, String borrower, int years) {
        TuneLoans x = bank(tune, borrower);
        x.loan(0, 0, 0, years);
        return x;
    }

    /** A tune of some a and a b, of which the b goes: as many notes as a are in common, and not all. */
    private static TuneLoans keepsOnly(int many, int ear) {
        TuneLoans x = lent("a".repeat(many) + "b", "b-b", 1);
        x.ear(ear);
        return x;
    }

    // ---- hummed

    @Says("HUMMED by a BORROWER a tune is changed so, from its beginning on, once each NOTE that it had")
    static void whatWasHummedInIsNotHummedAtOnce() {
        notes("a + a", lent("a", "a+a", 1), 0, 0, "aa");
        notes("two a + a", lent("aa", "a+a", 1), 0, 0, "aaaa");
        notes("Y behind X is X of the next", lent("ab", "a+a", 1), 0, 0, "aab");
    }

    @Says("HUMMED by a BORROWER a tune is changed so, from its beginning on, once each NOTE that it had")
    static void eachNoteThatItHadIsHummed() {
        notes("the first, a middle one, the last", lent("aabcaba", "a+d", 1), 0, 0, "adadbcadbad");
        TuneLoans x = lent("aabcaba", "a-d", 1);
        x.ear(0);
        notes("each goes", x, 0, 0, "bcb");
    }

    @Says("HUMMED by a BORROWER a tune is changed so, from its beginning on, once each NOTE that it had")
    static void ofNoNotesNoneCome() {
        TuneLoans x = bank("a", "a-a;a+a");
        x.ear(0);
        x.loan(0, 0, 0, 1);
        x.loan(1, 0, 1, 9);
        notes("all gone", x, 0, 0, "");
        notes("and none come", x, 9, 0, "");
    }

    @Says("it has 40 NOTES at most: what is behind these goes.")
    static void fortyNotesStay() {
        TuneLoans x = lent("aaaabbbbbbbc", "a+a", 3);
        notes("twice", x, 1, 0, "a".repeat(16) + "bbbbbbbc");
        notes("three times", x, 2, 0, "a".repeat(32) + "bbbbbbbc");
        due("the last place", x.notes(2, 0, 39), 2);
    }

    @Says("it has 40 NOTES at most: what is behind these goes.")
    static void thirtyNineNotesStay() {
        TuneLoans x = lent("aaaabbbbbbc", "a+a", 3);
        notes("three times", x, 2, 0, "a".repeat(32) + "bbbbbbc");
        due("the last place is empty", x.notes(2, 0, 39), NONE);
    }

    @Says("it has 40 NOTES at most: what is behind these goes.")
    static void ofFortyOneTheLastGoes() {
        notes("the b is gone", lent("aaaaab", "a+a", 3), 2, 0, "a".repeat(40));
        TuneLoans x = lent("aaaaab", "a+a", 2);
        x.loan(2, 0, 0, 1);
        due("all but one came", x.came(1, 2), 19);
    }

    @Says("it has 40 NOTES at most: what is behind these goes.")
    static void anOrnamentIsCutFromItsNote() {
        TuneLoans x = bank("cccaaaaa", "a+a;a+b");
        x.loan(0, 0, 0, 2);
        x.loan(2, 0, 1, 1);
        notes("odd: the last a has no b", x, 2, 0, "ccc" + "ab".repeat(18) + "a");
        due("its last place", x.notes(2, 0, 39), 0);
    }

    @Says("it has 40 NOTES at most: what is behind these goes.")
    static void whatIsGoneDoesNotComeBack() {
        TuneLoans x = bank("aaaaaaaaaaab", "a+a;a-a");
        x.ear(0);
        x.loan(0, 0, 0, 2);
        x.loan(2, 0, 1, 1);
        notes("forty", x, 1, 0, "a".repeat(40));
        notes("no b is left", x, 2, 0, "");
    }

    // ---- years and loans

    @Says("YEARS are 0 to 39.")
    static void yearsAre0To39() {
        TuneLoans x = bank("a", "a+b");
        for (int year : new int[] {0, 39}) {
            due("notes in " + year, x.notes(year, 0, NONE), 1);
            due("has in " + year, x.has(year, 0), NONE);
            due("interest in " + year, x.interest(year), 0);
            due("home in " + year, x.home(year), year);
        }
        for (int year : new int[] {-1, 40}) {
            due("notes in " + year, x.notes(year, 0, NONE), BAD);
            due("has in " + year, x.has(year, 0), BAD);
            due("interest in " + year, x.interest(year), NO_NUMBER);
            due("home in " + year, x.home(year), BAD);
            due("loan in " + year, x.loan(year, 0, 0, 1), BAD);
        }
        due("a loan in 0", x.loan(0, 0, 0, 1), 1);
        due("a loan in 39", x.loan(39, 0, 0, 1), 2);
        due("both count", x.count(5), 2);
        due("in 38", x.notes(38, 0, NONE), 2);
        due("in 39", x.notes(39, 0, NONE), 3);
    }

    @Says("LOANS, 12 at most (0 on)")
    static void twelveLoansFrom0On() {
        TuneLoans x = bank("a", "a+b");
        for (int k = 0; k < 12; k++) {
            due("no loan " + k, x.came(k, 0), NO_NUMBER);
            due("loan " + k, x.loan(k, 0, 0, 1), k + 1);
            due("it counts", x.came(k, 0), 1);
        }
        due("a thirteenth", x.loan(12, 0, 0, 1), FULL);
        due("loan -1", x.came(-1, 0), NO_NUMBER);
        due("loan 12", x.came(12, 0), NO_NUMBER);
        due("twelve count", x.count(5), 12);
        notes("twelve hummed it", x, 39, 0, "a" + "b".repeat(12));
    }

    @Says("in a YEAR a TUNE (0 to 5) is lent to a BORROWER (0 to 5) for so many YEARS (1 to 9).")
    static void forOneYearAndForNine() {
        for (int years = 1; years <= 9; years++) {
            TuneLoans x = bank("a", "a+b");
            x.loan(3, 0, 0, years);
            due("ahead", x.has(2, 0), NONE);
            for (int k = 0; k < years - 1; k++) due("year " + k + " of " + years, x.has(3 + k, 0), 0);
            due("behind the last of " + years, x.has(2 + years, 0), NONE);
            due("hummed in each of " + years, x.notes(39, 0, NONE), 1 + years);
        }
    }

    @Says("in a YEAR a TUNE (0 to 5) is lent to a BORROWER (0 to 5) for so many YEARS (1 to 9).")
    static void fromTheFirstToTheLastOfBoth() {
        TuneLoans x = bank("a;a;a;a;a;a", "a+b;a+b;a+b;a+b;a+b;a+c");
        x.loan(0, 0, 5, 2);
        x.loan(0, 5, 0, 2);
        due("tune 0 at borrower 5", x.has(0, 0), 5);
        due("tune 5 at borrower 0", x.has(0, 5), 0);
        due("by borrower 5", x.notes(0, 0, 1), 2);
        due("by borrower 0", x.notes(0, 5, 1), 1);
        for (int t = 1; t <= 4; t++) due("tune " + t, x.has(0, t), NONE);
    }

    @Says("In a YEAR first LOANS of that YEAR are looked at, as told")
    static void theFirstToldOfAYearCounts() {
        TuneLoans x = bank("a", "a+b;a+c");
        x.loan(4, 0, 1, 2);
        x.loan(4, 0, 0, 1);
        due("the first", x.came(0, 0), 1);
        due("the second", x.came(1, 0), 0);
        due("who has it", x.has(4, 0), 1);
        notes("by the first", x, 5, 0, "acc");
    }

    @Says("In a YEAR first LOANS of that YEAR are looked at, as told")
    static void anEarlierYearIsAheadOfWhatWasToldEarlier() {
        TuneLoans x = bank("a", "a+b;a+c");
        x.loan(5, 0, 0, 1);
        x.loan(4, 0, 1, 2);
        due("told first, but of a later year", x.came(0, 0), 0);
        due("told later", x.came(1, 0), 1);
        notes("by the second alone", x, 39, 0, "acc");
    }

    @Says("In a YEAR first LOANS of that YEAR are looked at, as told: one counts, if there are such")
    static void ofNoSuchTuneNoneCounts() {
        TuneLoans x = bank("a;b", "a+b");
        x.loan(0, 2, 0, 1);
        x.loan(0, 5, 0, 1);
        x.loan(0, 1, 0, 1);
        due("tune 2 of two", x.came(0, 0), 0);
        due("tune 5 of two", x.came(1, 0), 0);
        due("tune 1 of two", x.came(2, 0), 1);
        typed(x, 0, ";c");
        due("tune 2 of three", x.came(0, 0), 1);
        due("tune 5 of three", x.came(1, 0), 0);
    }

    @Says("In a YEAR first LOANS of that YEAR are looked at, as told: one counts, if there are such")
    static void toNoSuchBorrowerNoneCounts() {
        TuneLoans x = bank("a", "a+b;a+c");
        x.loan(0, 0, 2, 3);
        x.loan(0, 0, 1, 1);
        x.loan(1, 0, 5, 1);
        due("borrower 2 of two", x.came(0, 0), 0);
        due("the next told counts then", x.came(1, 0), 1);
        due("borrower 5 of two", x.came(2, 0), 0);
        typed(x, 1, ";a+d");
        due("borrower 2 of three", x.came(0, 0), 1);
        due("so the next does not", x.came(1, 0), 0);
    }

    @Says("In a YEAR first LOANS of that YEAR are looked at, as told: one counts, if there are such")
    static void ofATuneOrToABorrowerThatWentNoneCounts() {
        TuneLoans x = bank("a;b", "g-g;a+b");
        x.loan(0, 1, 0, 1);
        x.loan(0, 0, 1, 1);
        due("both count", x.count(5), 2);
        x.undo(0);
        x.undo(0);
        due("the tune went", x.came(0, 0), 0);
        due("the other one is there", x.came(1, 0), 1);
        for (int k = 0; k < 4; k++) x.undo(1);
        due("the borrower went", x.came(1, 0), 0);
        due("none counts", x.count(5), 0);
    }

    @Says("one counts, if there are such, and the TUNE is at the bank.")
    static void oneThatIsOutIsNotLent() {
        TuneLoans x = bank("a;a", "a+b;a+c");
        x.loan(3, 0, 0, 3);
        for (int year = 3; year <= 6; year++) x.loan(year, 0, 1, 1);
        due("in its first year", x.came(1, 0), 0);
        due("in its second", x.came(2, 0), 0);
        due("in its last, behind which it comes back", x.came(3, 0), 0);
        due("in the year behind", x.came(4, 0), 1);
        x.loan(4, 1, 1, 1);
        due("another one is there", x.came(5, 0), 1);
    }

    @Says("one counts, if there are such, and the TUNE is at the bank.")
    static void oneThatDoesNotCountKeepsNothingOut() {
        TuneLoans x = bank("a", "a+b;a+c");
        x.loan(0, 0, 0, 2);
        x.loan(1, 0, 1, 9);
        x.loan(2, 0, 1, 1);
        due("too early", x.came(1, 0), 0);
        due("not kept out by that", x.came(2, 0), 1);
        due("at the bank", x.has(2, 0), NONE);
    }

    @Says("one counts, if there are such, and the TUNE is at the bank.")
    static void aBadOneIsAtTheBankToo() {
        TuneLoans x = bank("b", "b/c;b+c");
        x.loan(0, 0, 0, 1);
        x.loan(1, 0, 1, 1);
        due("BAD", x.came(0, 1), 1);
        due("lent again", x.came(1, 0), 1);
        notes("what was lent was hummed", x, 1, 0, "bc");
    }

    @Says("Then each TUNE that is lent is HUMMED once (also one that is lent in this YEAR).")
    static void onceInEachYearFromTheFirstOn() {
        TuneLoans x = bank("a", "a+b");
        x.loan(30, 0, 0, 9);
        due("ahead", x.notes(29, 0, NONE), 1);
        for (int k = 0; k < 9; k++) due("in year " + (30 + k), x.notes(30 + k, 0, NONE), 2 + k);
        due("behind", x.notes(39, 0, NONE), 10);
    }

    @Says("Then each TUNE that is lent is HUMMED once (also one that is lent in this YEAR).")
    static void allSixAreHummedByOne() {
        TuneLoans x = bank("a;aa;a;aa;a;aa", "a+b");
        for (int t = 0; t < 6; t++) x.loan(0, t, 0, 1);
        for (int t = 0; t < 6; t++) due("tune " + t, x.notes(0, t, NONE), t % 2 == 0 ? 2 : 4);
        due("all count", x.count(5), 6);
    }

    @Says("Then each TUNE that is lent is HUMMED once (also one that is lent in this YEAR).")
    static void oneAtTheBankIsNotHummed() {
        TuneLoans x = bank("a;a", "a+b");
        x.loan(0, 0, 0, 9);
        due("at the bank", x.notes(39, 1, NONE), 1);
        due("lent", x.notes(39, 0, NONE), 10);
    }

    @Says("Then those whose YEARS are over come back")
    static void theyComeBackBehindTheirLastYear() {
        TuneLoans x = bank("a;a;a", "a+b");
        x.loan(31, 0, 0, 9);
        x.loan(32, 1, 0, 9);
        x.loan(39, 2, 0, 1);
        due("31 and 9: out in 38", x.has(38, 0), 0);
        due("31 and 9: back behind 39", x.has(39, 0), NONE);
        due("32 and 9: out behind 39", x.has(39, 1), 0);
        due("39 and 1: back behind 39", x.has(39, 2), NONE);
        due("31 and 9 came", x.came(0, 2), 9);
        due("32 and 9 did not", x.came(1, 2), 0);
        due("39 and 1 came", x.came(2, 2), 1);
    }

    // ---- the ear

    @Says("the EAR (0 to 12; 2 at first) KNOWS a tune again")
    static void theEarIs2AtFirst() {
        due("told", new TuneLoans().count(6), 2);
        due("two notes in common", lent("aab", "b-b", 1).came(0, 1), 0);
        due("one note in common", lent("ab", "b-b", 1).came(0, 1), 1);
    }

    @Says("the EAR (0 to 12; 2 at first) KNOWS a tune again")
    static void theEarIs0To12() {
        TuneLoans x = new TuneLoans();
        due("ear -1", x.ear(-1), BAD);
        due("ear 13", x.ear(13), BAD);
        due("ear 0", x.ear(0), 2);
        due("ear 12", x.ear(12), 0);
        due("it stays", x.count(6), 12);
    }

    @Says("if it has that many NOTES, or more, in COMMON with what was lent")
    static void justAsManyAreEnough() {
        for (int ear = 0; ear <= 11; ear++) {
            TuneLoans x = keepsOnly(ear, ear);
            due("ear " + ear + " and as many: BAD", x.came(0, 1), 0);
            due("ear " + ear + " and as many: notes", x.notes(0, 0, NONE), ear);
        }
    }

    @Says("if it has that many NOTES, or more, in COMMON with what was lent")
    static void oneLessIsNotEnough() {
        for (int ear = 1; ear <= 12; ear++) {
            TuneLoans x = keepsOnly(ear - 1, ear);
            due("ear " + ear + " and one less: BAD", x.came(0, 1), 1);
            due("ear " + ear + " and one less: notes", x.notes(0, 0, NONE), ear);
        }
    }

    @Says("if it has that many NOTES, or more, in COMMON with what was lent")
    static void moreAreEnough() {
        for (int ear = 0; ear <= 10; ear++) {
            due("ear " + ear + " and one more", keepsOnly(ear + 1, ear).came(0, 1), 0);
            due("ear " + ear + " and eleven", keepsOnly(11, ear).came(0, 1), 0);
        }
    }

    @Says("if it has that many NOTES, or more, in COMMON with what was lent")
    static void twelveOfThirteenAreEnoughForAnEarOf12() {
        TuneLoans x = bank("aaaaaab", "a+a;b-b");
        x.ear(12);
        x.loan(0, 0, 0, 1);
        x.loan(1, 0, 1, 1);
        due("thirteen were lent", x.notes(0, 0, NONE), 13);
        due("twelve are known", x.came(1, 1), 0);
        notes("without the b", x, 1, 0, "a".repeat(12));
    }

    @Says("if it has that many NOTES, or more, in COMMON with what was lent")
    static void itIsWhatWasLentThatCounts() {
        TuneLoans x = bank("aab", "b/c;a/d");
        x.loan(0, 0, 0, 1);
        x.loan(1, 0, 1, 1);
        x.ear(1);
        notes("first", x, 0, 0, "aac");
        notes("then, of aac the c", x, 1, 0, "ddc");
        due("known by the c, that was not told", x.came(1, 1), 0);
    }

    @Says("or all that had;")
    static void allThatItHadAreEnough() {
        for (int many = 1; many <= 11; many++) {
            TuneLoans x = lent("a".repeat(many), "a+b", 1);
            x.ear(12);
            due("all of " + many, x.came(0, 1), 0);
            TuneLoans y = keepsOnly(many, 12);
            due("all but one of " + (many + 1), y.came(0, 1), 1);
        }
    }

    @Says("or all that had;")
    static void allOfNoneAreEnough() {
        TuneLoans x = bank("a", "a-a;a+b");
        x.loan(0, 0, 0, 1);
        x.loan(1, 0, 1, 1);
        x.ear(0);
        due("none are left", x.notes(0, 0, NONE), 0);
        due("by an ear of 0", x.came(1, 1), 0);
        x.ear(12);
        due("by an ear of 12 one is left", x.notes(0, 0, NONE), 1);
    }

    @Says("else the bank has what was lent (and the LOAN is BAD).")
    static void elseItHasWhatWasLent() {
        TuneLoans x = bank("bbba", "b+c;b-b;a/d");
        x.loan(0, 0, 0, 1);
        x.loan(1, 0, 1, 2);
        x.loan(3, 0, 2, 1);
        notes("lent then, not told", x, 0, 0, "bcbcbca");
        notes("out with it", x, 1, 0, "ccca");
        due("known: four are in common", x.came(1, 1), 0);
        x.ear(5);
        notes("while it is out", x, 1, 0, "ccca");
        notes("as it was lent", x, 2, 0, "bcbcbca");
        due("BAD", x.came(1, 1), 1);
        notes("and lent on so", x, 3, 0, "bcbcbcd");
    }

    // ---- promise 8: loan

    @Says(promise = 8, value = "A LOAN more (TUNE, BORROWER 0 to 5): how many.")
    static void loansOfWhatIsNotThereMayBeTold() {
        TuneLoans x = new TuneLoans();
        due("the least of all", x.loan(0, 0, 0, 1), 1);
        due("the most of all", x.loan(39, 5, 5, 9), 2);
        due("how many", x.count(4), 2);
        due("none counts", x.count(5), 0);
    }

    @Says(promise = 8, value = "BAD; FULL.")
    static void loanInNoSuchYear() {
        for (int year : new int[] {-1, 40, Integer.MIN_VALUE, Integer.MAX_VALUE}) {
            due("year " + year, new TuneLoans().loan(year, 0, 0, 1), BAD);
        }
    }

    @Says(promise = 8, value = "BAD; FULL.")
    static void loanOfNoSuchTune() {
        for (int tune : new int[] {-1, 6, Integer.MIN_VALUE, Integer.MAX_VALUE}) {
            due("tune " + tune, new TuneLoans().loan(0, tune, 0, 1), BAD);
        }
    }

    @Says(promise = 8, value = "BAD; FULL.")
    static void loanToNoSuchBorrower() {
        for (int borrower : new int[] {-1, 6, Integer.MIN_VALUE, Integer.MAX_VALUE}) {
            due("borrower " + borrower, new TuneLoans().loan(0, 0, borrower, 1), BAD);
        }
    }

    @Says(promise = 8, value = "BAD; FULL.")
    static void loanForNoSuchTime() {
        for (int years : new int[] {0, 10, -1, Integer.MIN_VALUE, Integer.MAX_VALUE}) {
            TuneLoans x = new TuneLoans();
            due("years " + years, x.loan(0, 0, 0, years), BAD);
            due("none was told", x.count(4), 0);
        }
    }

    @Says(promise = 8, value = "BAD; FULL.")
    static void aThirteenthLoanIsTooMuch() {
        TuneLoans x = new TuneLoans();
        for (int k = 1; k <= 12; k++) due("loan " + k, x.loan(0, 0, 0, 1), k);
        due("loan 13", x.loan(0, 0, 0, 1), FULL);
        due("once more", x.loan(39, 5, 5, 9), FULL);
        due("how many", x.count(4), 12);
        x.back();
        due("there is room again", x.loan(0, 0, 0, 1), 12);
        due("and none", x.loan(0, 0, 0, 1), FULL);
    }

    @Says(promise = 8, value = "BAD; FULL.")
    static void badLoanIsAheadOfFull() {
        TuneLoans x = new TuneLoans();
        for (int k = 1; k <= 12; k++) x.loan(0, 0, 0, 1);
        due("year", x.loan(40, 0, 0, 1), BAD);
        due("tune", x.loan(0, 6, 0, 1), BAD);
        due("borrower", x.loan(0, 0, 6, 1), BAD);
        due("years", x.loan(0, 0, 0, 0), BAD);
    }

    // ---- promise 9: back

    @Says(promise = 9, value = "The last LOAN is undone: how many are left.")
    static void loansAreUndoneDownTo0() {
        TuneLoans x = bank("a", "a+b");
        for (int k = 0; k < 12; k++) x.loan(k, 0, 0, 1);
        for (int left = 11; left >= 0; left--) {
            due("how many", x.back(), left);
            due("as many hummed", x.notes(39, 0, NONE), 1 + left);
            due("that one is gone", x.came(left, 0), NO_NUMBER);
        }
    }

    @Says(promise = 9, value = "The last LOAN is undone: how many are left.")
    static void theLastToldIsUndoneNotTheLatestYear() {
        TuneLoans x = bank("a", "a+b;a+c");
        x.loan(20, 0, 0, 1);
        x.loan(3, 0, 1, 1);
        x.back();
        notes("the first told is left", x, 39, 0, "ab");
    }

    @Says(promise = 9, value = "NOT: there is none.")
    static void noLoanIsNotUndone() {
        TuneLoans x = new TuneLoans();
        due("of a new one", x.back(), NOT);
        x.loan(0, 0, 0, 1);
        due("the only one", x.back(), 0);
        due("none is left", x.back(), NOT);
        due("how many", x.count(4), 0);
    }

    // ---- promise 10: read

    @Says(promise = 10, value = "LOANS from a SHEET: its items, four for each, as many as are whole")
    static void fourItemsAreOneLoan() {
        int[] items = {1, 0, 0, 1, 2, 0, 0, 1, 3, 0, 0, 1};
        for (int size = 0; size <= 12; size++) {
            TuneLoans x = bank("a", "a+b");
            laid(x, 0, 0, java.util.Arrays.copyOf(items, size));
            due("of " + size + " items", x.read(0), size / 4);
            due("loans then", x.count(4), size / 4);
            due("that count", x.count(5), size / 4);
        }
    }

    @Says(promise = 10, value = "LOANS from a SHEET: its items, four for each, as many as are whole")
    static void theyAreYearTuneBorrowerYears() {
        for (int form = 0; form <= 2; form++) {
            TuneLoans x = bank("a;b;a", "c+c;c+c;a+d;b+e");
            laid(x, 3, form, 30, 2, 3, 9, 7, 2, 2, 4);
            due("two", x.read(3), 2);
            due("who has it first", x.has(7, 2), 2);
            due("in the last year but one", x.has(9, 2), 2);
            due("back behind the fourth", x.has(10, 2), NONE);
            due("then who", x.has(30, 2), 3);
            due("to the end", x.has(38, 2), NONE);
            due("nine years", x.has(37, 2), 3);
            items("the items stay", x, 3, form, 30, 2, 3, 9, 7, 2, 2, 4);
        }
    }

    @Says(promise = 10, value = "as long as each may be: how many.")
    static void itStopsAtTheFirstThatMayNotBe() {
        int[][] wrong = {{-1, 0, 0, 1}, {40, 0, 0, 1}, {0, -1, 0, 1}, {0, 6, 0, 1}, {0, 0, -1, 1}, {0, 0, 6, 1},
            {0, 0, 0, 0}, {0, 0, 0, 10}};
        for (int[] w : wrong) {
            TuneLoans x = new TuneLoans();
            laid(x, 0, 2, 39, 5, 5, 9, w[0], w[1], w[2], w[3], 0, 0, 0, 1);
            due("up to it", x.read(0), 1);
            due("none behind it", x.count(4), 1);
            laid(x, 1, 0, w);
            due("it alone", x.read(1), 0);
            due("still one", x.count(4), 1);
        }
    }

    @Says(promise = 10, value = "as long as each may be: how many.")
    static void itStopsWhenThereAreTwelve() {
        TuneLoans x = new TuneLoans();
        x.sheet(0, 1, 60);
        for (int k = 0; k < 15; k++) x.lay(0, 1, 4 * k + 3, 1);
        due("twelve of fifteen", x.read(0), 12);
        due("twelve are there", x.count(4), 12);
        due("then none", x.read(0), 0);
        x.back();
        due("then one", x.read(0), 1);
        due("twelve again", x.count(4), 12);
    }

    @Says(promise = 10, value = "as long as each may be: how many.")
    static void itTellsHowManyWereTakenNotHowManyThereAre() {
        TuneLoans x = new TuneLoans();
        for (int k = 0; k < 5; k++) x.loan(0, 0, 0, 1);
        laid(x, 0, 2, 1, 1, 1, 1, 2, 2, 2, 2);
        due("two were taken", x.read(0), 2);
        due("seven are there", x.count(4), 7);
    }

    @Says(promise = 10, value = "BAD; NULL.")
    static void readOfNoSuchSheet() {
        TuneLoans x = new TuneLoans();
        due("sheet -1", x.read(-1), BAD);
        due("sheet 4", x.read(4), BAD);
        for (int far : FAR_OUT) due("sheet far out", x.read(far), BAD);
        due("no finding", x.count(8), 0);
    }

    @Says(promise = 10, value = "BAD; NULL.")
    static void readOfALostSheet() {
        for (int s = 0; s <= 3; s++) {
            TuneLoans x = new TuneLoans();
            due("sheet " + s, x.read(s), NULL);
            due("the finding", x.count(8), 1);
            x.sheet(s, 0, 3);
            due("there, but with no whole loan", x.read(s), 0);
            x.lose(s);
            due("lost again", x.read(s), NULL);
        }
    }

    // ---- promise 11: ear

    @Says(promise = 11, value = "EAR: what it was.")
    static void eachEarTellsTheOneBefore() {
        TuneLoans x = new TuneLoans();
        int was = 2;
        for (int v : new int[] {0, 12, 1, 11, 11, 2}) {
            due("ear " + v, x.ear(v), was);
            due("then", x.count(6), v);
            was = v;
        }
    }

    @Says(promise = 11, value = "EAR: what it was.")
    static void anotherEarLivesAllYearsAnew() {
        TuneLoans x = lent("ab", "b-b", 1);
        due("by 2", x.notes(39, 0, NONE), 2);
        x.ear(1);
        due("by 1", x.notes(39, 0, NONE), 1);
        x.ear(2);
        due("by 2 again", x.notes(39, 0, NONE), 2);
    }

    @Says(promise = 11, value = "BAD.")
    static void noSuchEar() {
        TuneLoans x = new TuneLoans();
        due("ear -1", x.ear(-1), BAD);
        due("ear 13", x.ear(13), BAD);
        for (int far : FAR_OUT) due("ear far out", x.ear(far), BAD);
        due("it stays", x.count(6), 2);
    }
}
