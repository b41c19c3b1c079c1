/** Sentences on what stands behind each year: Terms, promises 12 to 16. */
final class SaysOfYears extends Checks {
    private static final String SIX = "a;b;c;d;e;f";

    // ---- behind a year

    @Says("Behind a YEAR: how many NOTES a TUNE has (as it is now, lent or not); its i-th NOTE; NONE;")
    static void itIsAsItIsNowLentOrNot() {
        TuneLoans x = bank("a", "a+b");
        x.loan(2, 0, 0, 2);
        notes("not lent yet", x, 1, 0, "a");
        notes("lent", x, 2, 0, "ab");
        notes("back", x, 3, 0, "abb");
        notes("at the bank", x, 4, 0, "abb");
    }

    @Says("Behind a YEAR: how many NOTES a TUNE has (as it is now, lent or not); its i-th NOTE; NONE;")
    static void aTuneMayHaveNoNotes() {
        TuneLoans x = bank("a", "a-a");
        x.ear(0);
        due("it has one", x.notes(0, 0, NONE), 1);
        x.loan(0, 0, 0, 1);
        due("it has none", x.notes(0, 0, NONE), 0);
        due("no first", x.notes(0, 0, 0), NONE);
        due("no last", x.notes(0, 0, 39), NONE);
    }

    @Says("who has it; NONE: the bank.")
    static void whoHasItIsABorrower() {
        TuneLoans x = bank("a", "a+b;a+b;a+b;a+b;a+b;a+b");
        x.loan(1, 0, 0, 2);
        x.loan(3, 0, 5, 2);
        due("the bank", x.has(0, 0), NONE);
        due("the first", x.has(1, 0), 0);
        due("the bank again", x.has(2, 0), NONE);
        due("the last", x.has(3, 0), 5);
        due("the bank at the end", x.has(39, 0), NONE);
    }

    // ---- of a loan

    @Says("Of a LOAN: whether it counts;")
    static void aLoanCountsOrDoesNot() {
        TuneLoans x = bank("a", "a+b");
        x.loan(0, 0, 0, 2);
        x.loan(1, 0, 0, 1);
        x.loan(39, 0, 0, 9);
        due("it counts", x.came(0, 0), 1);
        due("it does not", x.came(1, 0), 0);
        due("one that never comes back counts", x.came(2, 0), 1);
        due("two of three", x.count(5), 2);
    }

    @Says("whether it is BAD (by YEAR 39);")
    static void aLoanIsBadByYear39() {
        for (int years = 1; years <= 3; years++) {
            TuneLoans x = bank("b", "b/c");
            x.loan(38, 0, 0, years);
            due("38 and " + years, x.came(0, 1), years <= 2 ? 1 : 0);
        }
        TuneLoans last = bank("b", "b/c");
        last.loan(39, 0, 0, 1);
        due("39 and 1", last.came(0, 1), 1);
        last.back();
        last.loan(39, 0, 0, 2);
        due("39 and 2", last.came(0, 1), 0);
        due("though nothing of it is there", last.notes(39, 0, 0), 2);
    }

    @Says("whether it is BAD (by YEAR 39);")
    static void aLoanThatDoesNotCountIsNotBad() {
        TuneLoans x = bank("b", "a+b;b/c");
        x.loan(0, 0, 0, 3);
        x.loan(1, 0, 1, 1);
        due("it does not count", x.came(1, 0), 0);
        due("so it is not BAD", x.came(1, 1), 0);
        due("and nothing came", x.came(1, 2), 0);
    }

    @Says("how many NOTES more came back than were lent, also of a BAD one (perhaps fewer; 0: nothing came back by YEAR 39).")
    static void moreThanWereLentNotThanWereTold() {
        TuneLoans x = bank("a", "a+b;a+c");
        x.loan(0, 0, 0, 3);
        x.loan(3, 0, 1, 2);
        due("three more", x.came(0, 2), 3);
        due("two more", x.came(1, 2), 2);
    }

    @Says("how many NOTES more came back than were lent, also of a BAD one (perhaps fewer; 0: nothing came back by YEAR 39).")
    static void alsoOfABadOne() {
        TuneLoans x = bank("abbb;b", "b-a;b/a");
        x.loan(0, 0, 0, 1);
        x.loan(0, 1, 1, 1);
        due("BAD", x.came(0, 1), 1);
        due("three fewer", x.came(0, 2), -3);
        due("BAD too", x.came(1, 1), 1);
        due("as many", x.came(1, 2), 0);
        due("the bank has all four", x.notes(0, 0, NONE), 4);
    }

    @Says("how many NOTES more came back than were lent, also of a BAD one (perhaps fewer; 0: nothing came back by YEAR 39).")
    static void fromFortyFewerTo39More() {
        TuneLoans x = bank("a", "a+a;a-a");
        x.ear(0);
        x.loan(0, 0, 0, 9);
        x.loan(9, 0, 1, 1);
        due("39 more", x.came(0, 2), 39);
        due("40 fewer", x.came(1, 2), -40);
    }

    @Says("how many NOTES more came back than were lent, also of a BAD one (perhaps fewer; 0: nothing came back by YEAR 39).")
    static void nothingCameBackByYear39() {
        for (int years = 7; years <= 9; years++) {
            TuneLoans x = bank("a", "a+b");
            x.loan(32, 0, 0, years);
            due("32 and " + years, x.came(0, 2), years <= 8 ? years : 0);
            due("it has them though", x.notes(39, 0, NONE), 1 + Math.min(years, 8));
        }
    }

    @Says("how many NOTES more came back than were lent, also of a BAD one (perhaps fewer; 0: nothing came back by YEAR 39).")
    static void whatCameBackOnceIsForgottenWithWhatWasUndone() {
        TuneLoans x = bank("a", "a+b");
        x.loan(0, 0, 0, 3);
        due("three more", x.came(0, 2), 3);
        x.undo(1);
        due("no borrower: nothing came back", x.came(0, 2), 0);
        x.type(1, 'b');
        due("three more again", x.came(0, 2), 3);
        x.back();
        x.loan(32, 0, 0, 9);
        due("another loan, that does not come back", x.came(0, 2), 0);
    }

    // ---- interest

    @Says("INTEREST by a YEAR: how many NOTES all TUNES have more than at first (perhaps fewer).")
    static void interestIsMoreThanAtFirst() {
        TuneLoans x = bank("aa;a;c", "a+b;b+b");
        x.loan(0, 0, 0, 1);
        x.loan(1, 1, 0, 2);
        x.loan(39, 0, 1, 9);
        due("two of one", x.interest(0), 2);
        due("and one of another, that is out", x.interest(1), 3);
        due("and one more", x.interest(2), 4);
        due("as much", x.interest(38), 4);
        due("and two of one that is out", x.interest(39), 6);
    }

    @Says("INTEREST by a YEAR: how many NOTES all TUNES have more than at first (perhaps fewer).")
    static void interestMayBeFewer() {
        TuneLoans x = bank("aaaaaaaaaaaa;aaaaaaaaaaaa;aaaaaaaaaaaa;aaaaaaaaaaaa;aaaaaaa", "a-b");
        x.ear(0);
        for (int t = 0; t < 5; t++) x.loan(t, t, 0, 1);
        for (int t = 0; t < 4; t++) due("by year " + t, x.interest(t), -12 * (t + 1));
        due("by year 39: all", x.interest(39), -55);
    }

    @Says("INTEREST by a YEAR: how many NOTES all TUNES have more than at first (perhaps fewer).")
    static void interestIs234AtMost() {
        TuneLoans x = bank("a;a;a;a;a;a", "a+a");
        for (int t = 0; t < 6; t++) x.loan(30, t, 0, 9);
        due("ahead", x.interest(29), 0);
        due("at once", x.interest(30), 6);
        due("forty of each", x.interest(39), 234);
    }

    @Says("INTEREST by a YEAR: how many NOTES all TUNES have more than at first (perhaps fewer).")
    static void ofNoTunesThereIsNone() {
        for (int year = 0; year <= 39; year++) due("by year " + year, new TuneLoans().interest(year), 0);
    }

    // ---- home

    @Says("HOME: the first YEAR from one on behind which all TUNES are at the bank; NONE.")
    static void theFirstYearFromOneOn() {
        TuneLoans x = bank("a;a", "a+b");
        x.loan(1, 0, 0, 3);
        x.loan(3, 1, 0, 3);
        x.loan(8, 0, 0, 2);
        int[] want = {0, 5, 5, 5, 5, 5, 6, 7, 9, 9, 10};
        for (int year = 0; year < want.length; year++) due("from " + year + " on", x.home(year), want[year]);
    }

    @Says("HOME: the first YEAR from one on behind which all TUNES are at the bank; NONE.")
    static void homeMayBeTheLastYearOrNone() {
        TuneLoans x = bank("a", "a+b");
        x.loan(35, 0, 0, 5);
        due("from 34 on", x.home(34), 34);
        due("back behind the last", x.home(35), 39);
        due("from the last on", x.home(39), 39);
        x.back();
        x.loan(35, 0, 0, 6);
        due("not before the end", x.home(35), NONE);
        due("nor in it", x.home(39), NONE);
        due("but ahead", x.home(34), 34);
    }

    @Says("HOME: the first YEAR from one on behind which all TUNES are at the bank; NONE.")
    static void homeWaitsForAllSix() {
        for (int t = 0; t < 6; t++) {
            TuneLoans x = bank(SIX, "a+b;b+c");
            x.loan(0, t, 0, 2);
            due("tune " + t + " is out", x.home(0), 1);
        }
    }

    @Says("HOME: the first YEAR from one on behind which all TUNES are at the bank; NONE.")
    static void withoutTunesAllAreAtTheBank() {
        TuneLoans x = new TuneLoans();
        x.loan(0, 0, 0, 9);
        due("from 0 on", x.home(0), 0);
        due("from 39 on", x.home(39), 39);
    }

    // ---- promise 12: notes

    @Says(promise = 12, value = "How many NOTES a TUNE has (i = NONE), the i-th (0 to 39; NONE).")
    static void placesAre0To39() {
        TuneLoans x = bank("aaaabbbbbbbc;aaaabbbbbbc", "a+a");
        x.loan(0, 0, 0, 3);
        x.loan(0, 1, 0, 3);
        due("forty", x.notes(2, 0, NONE), 40);
        due("the first", x.notes(2, 0, 0), 0);
        due("the fortieth", x.notes(2, 0, 39), 2);
        due("39", x.notes(2, 1, NONE), 39);
        due("the 39th", x.notes(2, 1, 38), 2);
        due("no fortieth", x.notes(2, 1, 39), NONE);
    }

    @Says(promise = 12, value = "BAD.")
    static void notesOfNoSuchPlace() {
        TuneLoans x = bank("a", "");
        due("i -2", x.notes(0, 0, -2), BAD);
        due("i 40", x.notes(0, 0, 40), BAD);
        for (int far : FAR_OUT) due("i far out", x.notes(0, 0, far), BAD);
        due("i 39", x.notes(0, 0, 39), NONE);
    }

    @Says(promise = 12, value = "BAD.")
    static void notesInNoSuchYear() {
        TuneLoans x = bank("a", "");
        due("year -1", x.notes(-1, 0, 0), BAD);
        due("year 40", x.notes(40, 0, 0), BAD);
        for (int far : FAR_OUT) due("year far out", x.notes(far, 0, 0), BAD);
    }

    @Says(promise = 12, value = "BAD.")
    static void notesOfNoSuchTune() {
        TuneLoans x = bank(SIX, "");
        due("tune -1", x.notes(0, -1, 0), BAD);
        due("tune 6 of six", x.notes(0, 6, 0), BAD);
        for (int far : FAR_OUT) due("tune far out", x.notes(0, far, 0), BAD);
        due("tune 5 of six", x.notes(39, 5, 0), 5);
        due("tune 1 of one", bank("a", "").notes(0, 1, NONE), BAD);
        due("tune 0 of none", new TuneLoans().notes(0, 0, NONE), BAD);
    }

    // ---- promise 13: has

    @Says(promise = 13, value = "Who has a TUNE; NONE: the bank.")
    static void onlyTheOneThatIsLentIsOut() {
        TuneLoans x = bank(SIX, "a+b;a+b;a+b;a+b;a+b;a+b");
        for (int t = 0; t < 6; t++) x.loan(t, t, 5 - t, 7);
        for (int year = 0; year < 14; year++) {
            for (int t = 0; t < 6; t++) {
                boolean out = year >= t && year < t + 6;
                due("tune " + t + " behind " + year, x.has(year, t), out ? 5 - t : NONE);
            }
        }
    }

    @Says(promise = 13, value = "BAD.")
    static void hasInNoSuchYear() {
        TuneLoans x = bank("a", "");
        due("year -1", x.has(-1, 0), BAD);
        due("year 40", x.has(40, 0), BAD);
        for (int far : FAR_OUT) due("year far out", x.has(far, 0), BAD);
    }

    @Says(promise = 13, value = "BAD.")
    static void hasOfNoSuchTune() {
        TuneLoans x = bank(SIX, "");
        due("tune -1", x.has(0, -1), BAD);
        due("tune 6 of six", x.has(0, 6), BAD);
        for (int far : FAR_OUT) due("tune far out", x.has(0, far), BAD);
        due("tune 5 of six", x.has(0, 5), NONE);
        due("tune 0 of none", new TuneLoans().has(0, 0), BAD);
    }

    // ---- promise 14: came

    @Says(promise = 14, value = "Of a LOAN whether it counts (what = 0), is BAD (1), how many NOTES more came back (2), as any number.")
    static void threeThingsOfALoan() {
        TuneLoans x = bank("ba;a", "b/c;a+b");
        x.loan(0, 0, 0, 1);
        x.loan(0, 1, 1, 4);
        int[][] want = {{1, 1, 0}, {1, 0, 4}};
        for (int l = 0; l < 2; l++) {
            for (int what = 0; what < 3; what++) due("loan " + l + ", " + what, x.came(l, what), want[l][what]);
        }
    }

    @Says(promise = 14, value = "Of a LOAN whether it counts (what = 0), is BAD (1), how many NOTES more came back (2), as any number.")
    static void twoFewerIsANumberAndNoRefusal() {
        TuneLoans x = bank("bba;bbba;bbbba", "b-b");
        x.ear(0);
        for (int t = 0; t < 3; t++) x.loan(0, t, 0, 1);
        for (int t = 0; t < 3; t++) due("loan " + t, x.came(t, 2), -2 - t);
    }

    @Says(promise = 14, value = "BAD: -1002.")
    static void cameOfNoSuchLoan() {
        TuneLoans x = bank("a", "a+b");
        due("loan 0 of none", x.came(0, 0), NO_NUMBER);
        for (int k = 0; k < 12; k++) {
            x.loan(k, 0, 0, 1);
            due("the last of " + (k + 1), x.came(k, 0), 1);
            due("behind the last of " + (k + 1), x.came(k + 1, 0), NO_NUMBER);
        }
        due("loan -1", x.came(-1, 0), NO_NUMBER);
        for (int far : FAR_OUT) due("loan far out", x.came(far, 0), NO_NUMBER);
    }

    @Says(promise = 14, value = "BAD: -1002.")
    static void cameOfNoSuchWhat() {
        TuneLoans x = bank("a", "a+b");
        x.loan(0, 0, 0, 1);
        due("what -1", x.came(0, -1), NO_NUMBER);
        due("what 3", x.came(0, 3), NO_NUMBER);
        for (int far : FAR_OUT) due("what far out", x.came(0, far), NO_NUMBER);
    }

    // ---- promise 15: interest

    @Says(promise = 15, value = "INTEREST, as any number.")
    static void interestOfMinusTwoIsNoRefusal() {
        for (int fewer = 1; fewer <= 5; fewer++) {
            TuneLoans x = bank("b".repeat(fewer) + "a", "b-b");
            x.ear(0);
            x.loan(0, 0, 0, 1);
            due(fewer + " fewer", x.interest(0), -fewer);
        }
    }

    @Says(promise = 15, value = "BAD: -1002.")
    static void interestByNoSuchYear() {
        TuneLoans x = bank("a", "a+b");
        due("year -1", x.interest(-1), NO_NUMBER);
        due("year 40", x.interest(40), NO_NUMBER);
        for (int far : FAR_OUT) due("year far out", x.interest(far), NO_NUMBER);
    }

    // ---- promise 16: home

    @Says(promise = 16, value = "HOME; NONE.")
    static void homeIsNoneWhenOneStaysOut() {
        TuneLoans x = bank("a;b", "a+b");
        x.loan(39, 1, 0, 9);
        due("behind 39", x.home(39), NONE);
        due("behind 38", x.home(38), 38);
        due("behind 0", x.home(0), 0);
    }

    @Says(promise = 16, value = "BAD.")
    static void homeFromNoSuchYear() {
        TuneLoans x = bank("a", "a+b");
        due("year -1", x.home(-1), BAD);
        due("year 40", x.home(40), BAD);
        for (int far : FAR_OUT) due("year far out", x.home(far), BAD);
        due("year -1 without tunes", new TuneLoans().home(-1), BAD);
    }
}
