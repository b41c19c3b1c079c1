import java.math.BigInteger;

/** Sentences on refusals, counts, the digest and what an object is: Terms, promises 35 and 36. */
final class SaysOfRefusals extends Checks {
    /** A bank that has all that there can be: texts and loans are full, and each sheet has items. */
    private static TuneLoans full() {
        TuneLoans x = bank("aaabbbccc;abcabcabc;ddddddddd;abababa;aaaaaaaaaa;bcbcbcbcbc", "a+b;b-c;c/d;d+d;a/b;b+a");
        for (int k = 0; k < 12; k++) x.loan(k, k % 6, k % 5, 1 + k % 9);
        laid(x, 0, 0, 1, 2, 3);
        laid(x, 1, 1, 1000, 2000);
        laid(x, 2, 2, 100000);
        return x;
    }

    /** All that can be asked of it without a finding. */
    private static long asked(TuneLoans x) {
        long h = x.digest();
        for (int i = 0; i < 3; i++) h = 31 * h + x.get(0, 0, i);
        for (int i = 0; i < 2; i++) h = 31 * h + x.get(1, 1, i);
        return 31 * h + x.get(2, 2, 0);
    }

    /** Every refusal that is no finding, by its name. */
    private static void refused(TuneLoans x) {
        due("type", x.type(2, 'a'), BAD);
        due("type of no byte", x.type(0, 256), BAD);
        due("type of tunes", x.type(0, 'a'), FULL);
        due("type of borrowers", x.type(1, ';'), FULL);
        due("wipe", x.wipe(2), BAD);
        due("undo", x.undo(-1), BAD);
        due("fault", x.fault(2), BAD);
        due("tune", x.tune(6, 0), BAD);
        due("borrower", x.borrower(6, 0), BAD);
        due("loan", x.loan(40, 0, 0, 1), BAD);
        due("a thirteenth loan", x.loan(39, 0, 0, 1), FULL);
        due("read", x.read(4), BAD);
        due("ear", x.ear(13), BAD);
        due("notes", x.notes(40, 0, 0), BAD);
        due("has", x.has(0, 6), BAD);
        due("came", x.came(12, 0), NO_NUMBER);
        due("interest", x.interest(40), NO_NUMBER);
        due("home", x.home(40), BAD);
        due("lend", x.lend(0, 128, 0), BAD);
        due("longest", x.longest(0, 4, 0), BAD);
        due("who", x.who(0, 6, 0), BAD);
        due("common", x.common(0, 6), BAD);
        due("far", x.far(6, 0), BAD);
        due("nearest", x.nearest(6), BAD);
        due("mothers", x.mothers(6), BAD);
        due("tells", x.tells(0, 2), BAD);
        due("loses", x.loses(13), NO_NUMBER);
        due("best", x.best(241), BAD);
        due("hums", x.hums(17, 0, 0, 1, 1, 0), NO_LONG);
        due("fair", x.fair(0, 41, 0), BAD);
        due("sheet", x.sheet(0, 0, 61), BAD);
        due("lose", x.lose(4), BAD);
        due("lay", x.lay(0, 3, 0, 5), BAD);
        due("get", x.get(0, 3, 0), NO_ITEM);
        due("copy", x.copy(0, 0, 4, 0, 1), BAD);
        due("write", x.write(40, 0, 0), BAD);
        due("count", x.count(9), BAD);
    }

    /** Every call that may find something, with the number that it finds. */
    private static void found(TuneLoans x) {
        int[] got = {x.read(3), x.sheet(0, 0, -1), x.lose(3), x.lay(3, 0, 0, 5), x.lay(0, 1, 0, 5), x.lay(0, 0, 3, 5),
            x.copy(3, 0, 0, 0, 1), x.copy(0, 0, 3, 0, 1), x.copy(0, 0, 1, 0, 1), x.copy(0, 0, 0, 1, 3), x.write(0, 0, 3)};
        int[] want = {NULL, SIZE, NULL, NULL, CAST, INDEX, NULL, NULL, STORE, INDEX, NULL};
        for (int k = 0; k < got.length; k++) due("finding " + k, got[k], want[k]);
    }

    // ---- refusals

    @Says("Refusals, the first that fits, in the order told at each act: BAD -2 (a number not as told, no such thing), NULL, NOT -3 (as told), FULL -4, other FINDINGS.")
    static void theNumbersOfRefusals() {
        TuneLoans x = full();
        due("BAD", x.fault(2), -2);
        due("NOT", new TuneLoans().back(), -3);
        due("FULL", x.loan(0, 0, 0, 1), -4);
        due("NULL", x.lose(3), -11);
        due("INDEX", x.lay(0, 0, 3, 0), -12);
        due("CAST", x.lay(0, 1, 0, 0), -13);
        due("STORE", x.copy(0, 0, 1, 0, 1), -14);
        due("SIZE", x.sheet(0, 0, -1), -15);
    }

    @Says("Refusals, the first that fits, in the order told at each act: BAD -2 (a number not as told, no such thing), NULL, NOT -3 (as told), FULL -4, other FINDINGS.")
    static void badIsAheadOfAllOthers() {
        TuneLoans x = full();
        due("of FULL at type", x.type(1, 256), BAD);
        due("of FULL at loan", x.loan(0, 0, 0, 10), BAD);
        due("of NULL at lay", x.lay(3, 3, 0, 0), BAD);
        due("of NULL at copy", x.copy(3, 0, 4, 0, 0), BAD);
        due("of NULL at write", x.write(0, 6, 3), BAD);
        due("of CAST and INDEX at lay", x.lay(0, 3, 9, 0), BAD);
        due("of SIZE at sheet", x.sheet(0, 3, -1), BAD);
        due("no finding", x.count(8), 0);
    }

    @Says("They change nothing (FINDINGS but count() 8).")
    static void refusalsChangeNothing() {
        TuneLoans x = full();
        long before = asked(x);
        refused(x);
        due("all that can be asked", asked(x), before);
        due("no finding", x.count(8), 0);
        due("loans", x.count(4), 12);
        due("bytes of borrowers", x.count(3), 23);
    }

    @Says("They change nothing (FINDINGS but count() 8).")
    static void findingsChangeOnlyTheirNumber() {
        TuneLoans x = full();
        long before = asked(x);
        found(x);
        due("all that can be asked", asked(x), before);
        due("the latest finding", x.count(8), 1);
        due("sheet 0", x.lose(0), 3);
        due("sheet 1", x.lose(1), 2);
        due("sheet 2", x.lose(2), 1);
        due("sheet 3", x.lose(3), NULL);
    }

    @Says("They change nothing (FINDINGS but count() 8).")
    static void refusalsOfANewObjectChangeNothing() {
        TuneLoans x = new TuneLoans();
        long before = x.digest();
        due("undo", x.undo(0), NOT);
        due("back", x.back(), NOT);
        due("tune", x.tune(0, 0), BAD);
        due("came", x.came(0, 0), NO_NUMBER);
        due("lose", x.lose(0), NULL);
        due("the digest", x.digest(), before);
    }

    @Says("Where any number is told, a refusal is -1000 less x;")
    static void anyNumberIsRefusedAsMinus1002() {
        TuneLoans x = new TuneLoans();
        due("came", x.came(0, 0), -1000 - 2);
        due("interest", x.interest(40), -1000 - 2);
        due("loses", x.loses(13), -1000 - 2);
    }

    @Says("where the answer is a long, the least long and x more.")
    static void aLongIsRefusedAsTheLeastLongAnd2More() {
        due("hums", new TuneLoans().hums(1, 0, 0, 1, 1, 0), Long.MIN_VALUE + 2);
        due("hums, below", bank("a", "").hums(1, 0, 0, 1, 1, 1), Long.MIN_VALUE + 2);
    }

    // ---- promise 35: count

    @Says(promise = 35, value = "0 TUNES, 1 BORROWERS, 2, 3 bytes of texts, 4 LOANS, 5 LOANS that count, 6 EAR, 7 NOTES of all TUNES as told, 8 the number of the latest FINDING (0 before any).")
    static void countsOfANewObject() {
        int[] want = {0, 0, 0, 0, 0, 0, 2, 0, 0};
        for (int what = 0; what < 9; what++) due("count " + what, new TuneLoans().count(what), want[what]);
    }

    @Says(promise = 35, value = "0 TUNES, 1 BORROWERS, 2, 3 bytes of texts, 4 LOANS, 5 LOANS that count, 6 EAR, 7 NOTES of all TUNES as told, 8 the number of the latest FINDING (0 before any).")
    static void countsOfAFullOne() {
        TuneLoans x = bank("aaaaaaaaa;bbbbbbbbb;ccccccccc;ddddddddd;eeeeeeeee;fffffffff", "a+b;b-c;c/d;d+d;a/b;b+a");
        for (int k = 0; k < 12; k++) x.loan(3 * k, k % 6, k % 6, 3);
        x.ear(12);
        x.sheet(0, 0, -1);
        int[] want = {6, 6, 59, 23, 12, 12, 12, 54, 5};
        for (int what = 0; what < 9; what++) due("count " + what, x.count(what), want[what]);
    }

    @Says(promise = 35, value = "5 LOANS that count, 6 EAR, 7 NOTES of all TUNES as told")
    static void onlyLoansThatCountAndOnlyNotesAsTold() {
        TuneLoans x = bank("ab;c", "a+b");
        x.loan(0, 0, 0, 9);
        x.loan(1, 0, 0, 1);
        x.loan(0, 2, 0, 1);
        due("loans", x.count(4), 3);
        due("that count", x.count(5), 1);
        due("notes as told", x.count(7), 3);
        x.back();
        x.back();
        x.back();
        due("none counts", x.count(5), 0);
    }

    @Says(promise = 35, value = "8 the number of the latest FINDING (0 before any).")
    static void eachFindingHasItsNumber() {
        TuneLoans x = new TuneLoans();
        due("before any", x.count(8), 0);
        x.lose(0);
        due("NULL", x.count(8), 1);
        x.sheet(0, 0, 1);
        x.lay(0, 0, 1, 0);
        due("INDEX", x.count(8), 2);
        x.get(0, 1, 0);
        due("CAST", x.count(8), 3);
        x.sheet(1, 1, 1);
        x.copy(0, 0, 1, 0, 1);
        due("STORE", x.count(8), 4);
        x.sheet(1, 1, -1);
        due("SIZE", x.count(8), 5);
    }

    @Says(promise = 35, value = "BAD.")
    static void countOfNoSuchThing() {
        TuneLoans x = new TuneLoans();
        due("count -1", x.count(-1), BAD);
        due("count 9", x.count(9), BAD);
        for (int far : FAR_OUT) due("count far out", x.count(far), BAD);
    }

    // ---- promise 36: digest

    @Says(promise = 36, value = "h is 17; h becomes 31 h and each of: count() 0 to 7; of texts fault();")
    static void theDigestOfANewObject() {
        int[] each = {0, 0, 0, 0, 0, 0, 2, 0, -1, -1, 0, 0, 0, 3, 0, -1};
        long h = 17;
        for (int v : each) h = 31 * h + v;
        due("counts, faults, interest, home, loses, best", new TuneLoans().digest(), h);
    }

    @Says(promise = 36, value = "of TUNES tune(it, NONE), notes(5, it, NONE), notes(39, it, NONE), notes(5, it, 2), has(5, it), lend(it, 9, NONE and 0), longest(it, 3, NONE and 0), who(0, it, 0 and 1), far(0, it), nearest(), mothers(), tells() 0, 1, fair(7, 9, it), hums(5, it, 0, 4, 9), above, below (as it is told);")
    static void theDigestOfNoneToSixTunes() {
        String tunes = "abcd;aabb;dcba;a;gfed;ccccc";
        TuneLoans x = bank("", "a+d;b/a");
        for (int k = 0; k < tunes.length(); k++) {
            x.type(0, tunes.charAt(k));
            due("of " + tunes.substring(0, k + 1), x.digest(), digestByCalls(x));
        }
    }

    @Says(promise = 36, value = "hums(5, it, 0, 4, 9), above, below (as it is told);")
    static void withoutBorrowersHumsIsAsItIsTold() {
        TuneLoans x = bank("a", "");
        int[] each = {1, 0, 1, 0, 0, 0, 2, 1, -1, -1, 1, 1, 1, -1, -1, -1, -1, -1, -1, 1, 0, 0, -1, 0, 0, 0, 1};
        long h = 17;
        for (int v : each) h = 31 * h + v;
        h = 31 * (31 * h + NO_LONG) + NO_LONG;
        for (int v : new int[] {0, 0, 0, 3, 0, -1}) h = 31 * h + v;
        due("one note alone", x.digest(), h);
    }

    @Says(promise = 36, value = "of BORROWERS borrower() 0 to 2;")
    static void theDigestOfNoneToSixBorrowers() {
        String borrowers = "a+d;b/a;c-d;d+d;e/f;g+a";
        TuneLoans x = bank("abc;dd", "");
        for (int k = 0; k < borrowers.length(); k++) {
            x.type(1, borrowers.charAt(k));
            due("of " + borrowers.substring(0, k + 1), x.digest(), digestByCalls(x));
        }
    }

    @Says(promise = 36, value = "of LOANS came() 0 to 2;")
    static void theDigestOfNoneToTwelveLoans() {
        TuneLoans x = bank("abc;dd;ba", "a+d;d-b;b/a");
        for (int k = 0; k < 12; k++) {
            x.loan(3 * k, k % 4, k % 3, 1 + k % 5);
            due("of " + (k + 1), x.digest(), digestByCalls(x));
        }
        due("none more", x.loan(0, 0, 0, 1), FULL);
    }

    @Says(promise = 36, value = "interest(0), interest(9), interest(39), home(3), loses(9), best(1); as longs that wrap.")
    static void itsLastSix() {
        TuneLoans x = bank("a", "a+a;a/b;c+c");
        x.loan(0, 0, 0, 1);
        due("a note more from year 0 on", x.digest(), digestByCalls(x));
        x.back();
        x.loan(9, 0, 0, 1);
        due("from year 9 on", x.digest(), digestByCalls(x));
        x.back();
        x.loan(39, 0, 0, 1);
        due("behind 39", x.digest(), digestByCalls(x));
        x.back();
        x.loan(3, 0, 0, 5);
        due("out in 3", x.digest(), digestByCalls(x));
        for (int ears = 7; ears <= 10; ears++) {
            TuneLoans y = bank("a".repeat(ears) + "b", "b/c;c+c");
            y.loan(0, 0, 0, 1);
            y.loan(1, 0, 1, 1);
            due("known up to an ear of " + ears, y.digest(), digestByCalls(y));
        }
    }

    /** A number in the digest is the one of its year, and neither of the year before nor of the one behind. */
    private static void ofJustThatYear(String what, TuneLoans x, int before, int then, int behind) {
        due(what + " is another one before and behind", then != before && then != behind ? 1 : 0, 1);
        due("the digest has " + what, x.digest(), digestByCalls(x));
    }

    @Says(promise = 36, value = "notes(5, it, NONE), notes(39, it, NONE), notes(5, it, 2), has(5, it)")
    static void itsNotesAreBehindYears5And39() {
        TuneLoans x = bank("a", "a+b");
        for (int year : new int[] {5, 6, 39}) x.loan(year, 0, 0, 1);
        ofJustThatYear("how many behind 5", x, x.notes(4, 0, NONE), x.notes(5, 0, NONE), x.notes(6, 0, NONE));
        ofJustThatYear("how many behind 39", x, x.notes(38, 0, NONE), x.notes(39, 0, NONE), x.notes(40, 0, NONE));
        TuneLoans y = bank("abc", "c/d;d/e");
        y.loan(5, 0, 0, 1);
        y.loan(6, 0, 1, 1);
        ofJustThatYear("the third behind 5", y, y.notes(4, 0, 2), y.notes(5, 0, 2), y.notes(6, 0, 2));
        ofJustThatYear("the third, not its neighbours", y, y.notes(5, 0, 1), y.notes(5, 0, 2), y.notes(5, 0, 3));
        TuneLoans z = bank("abc", "g-g");
        z.loan(5, 0, 0, 2);
        ofJustThatYear("who has it behind 5", z, z.has(4, 0), z.has(5, 0), z.has(6, 0));
    }

    @Says(promise = 36, value = "interest(0), interest(9), interest(39), home(3), loses(9), best(1); as longs that wrap.")
    static void itsInterestIsOfYears0And9And39() {
        TuneLoans x = bank("a", "a+b");
        for (int year : new int[] {0, 1, 9, 10, 39}) x.loan(year, 0, 0, 1);
        ofJustThatYear("interest by 0", x, x.interest(-1), x.interest(0), x.interest(1));
        ofJustThatYear("interest by 9", x, x.interest(8), x.interest(9), x.interest(10));
        ofJustThatYear("interest by 39", x, x.interest(38), x.interest(39), x.interest(40));
        ofJustThatYear("home from 3 on", x, x.home(2), x.home(3), x.home(4));
    }

    @Says(promise = 36, value = "hums(5, it, 0, 4, 9), above, below (as it is told);")
    static void itsChanceIsOfNineNotes() {
        TuneLoans x = bank("accccccc;acccccccc;accccccccc;acccc;accc", "a+b");
        due("of eight notes it needs one", x.hums(5, 0, 0, 4, 9, 1), 65536);
        due("of nine it needs none", x.hums(5, 1, 0, 4, 9, 1), 1);
        due("of ten none", x.hums(5, 2, 0, 4, 9, 0), 1);
        due("of five all four", x.hums(5, 3, 0, 4, 9, 0), 625);
        due("of four four are too few", x.hums(5, 4, 0, 4, 9, 0), 0);
        due("the digest has them", x.digest(), digestByCalls(x));
    }

    @Says(promise = 36, value = "as longs that wrap.")
    static void itWrapsAsALong() {
        TuneLoans x = new TuneLoans();
        BigInteger h = BigInteger.valueOf(17);
        int[] each = {0, 0, 0, 0, 0, 0, 2, 0, -1, -1, 0, 0, 0, 3, 0, -1};
        for (int v : each) h = h.multiply(BigInteger.valueOf(31)).add(BigInteger.valueOf(v));
        due("it is longer than a long", h.bitLength() > 63 ? 1 : 0, 1);
        due("its lowest 64 bits", x.digest(), h.longValue());
    }

    @Says(promise = 36, value = "h is 17; h becomes 31 h and each of: count() 0 to 7;")
    static void findingsAndSheetsAreNotInIt() {
        TuneLoans x = bank("ab", "a+b");
        long before = x.digest();
        x.lose(0);
        due("behind a finding", x.digest(), before);
        due("that stays", x.count(8), 1);
        x.sheet(0, 0, 9);
        due("with a sheet", x.digest(), before);
        x.ear(3);
        due("another ear is in it", x.digest(), digestByCalls(x));
        due("and it stays", x.count(6), 3);
    }

    // ---- what it is

    @Says(promise = -1, value = "An object is used for at most 512 calls after it has been made; what later calls answer is free.")
    static void the512thCallIsAnsweredAsTheFirst() {
        TuneLoans x = new TuneLoans();
        for (int k = 0; k < 255; k++) {
            due("calls 1 to 509, each other one", x.type(0, 'z'), 1);
            due("calls 2 to 510, each other one", x.undo(0), 0);
        }
        due("call 511", x.type(0, 'g'), 1);
        due("call 512", x.tune(0, 0), 6);
    }

    @Says(promise = -1, value = "An object is used for at most 512 calls after it has been made; what later calls answer is free.")
    static void a512thDigestIsAsTheFirst() {
        TuneLoans x = bank("abcd;dcba;aab", "a+b;b/c;c+c");
        for (int k = 0; k < 6; k++) x.loan(3 * k, k % 3, k % 3, 2);
        long due = digestByCalls(bank("abcd;dcba;aab", "a+b;b/c;c+c"));
        for (int k = 0; k < 6; k++) x.back();
        for (int calls = 13 + 11 + 6 + 6; calls < 512; calls++) due("call " + calls, x.digest(), due);
    }

    @Says(promise = -1, value = "public static final int NONE = -1, BAD = -2, NOT = -3, FULL = -4;")
    static void theConstants() {
        due("NONE", TuneLoans.NONE, -1);
        due("BAD", TuneLoans.BAD, -2);
        due("NOT", TuneLoans.NOT, -3);
        due("FULL", TuneLoans.FULL, -4);
    }
}
