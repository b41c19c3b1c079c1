/** Promise by promise: ordinary inputs, the edges that the document names, and wrong inputs; worked out by hand. */
public final class PromisesTest extends Checks {
    private static void promise1() {
        TuneLoans x = new TuneLoans();
        int[] counts = {0, 0, 0, 0, 0, 0, 2, 0, 0};
        for (int k = 0; k < counts.length; k++) due("count(" + k + ")", x.count(k), counts[k]);
        for (int k = 0; k < 2; k++) due("fault(" + k + ")", x.fault(k), NONE);
        due("tune(0, NONE)", x.tune(0, NONE), BAD);
        due("borrower(0, 0)", x.borrower(0, 0), BAD);
        due("back()", x.back(), NOT);
        for (int s = 0; s < 4; s++) due("lose(" + s + ")", x.lose(s), NULL);
        due("NONE", TuneLoans.NONE, -1);
        due("BAD", TuneLoans.BAD, -2);
        due("NOT", TuneLoans.NOT, -3);
        due("FULL", TuneLoans.FULL, -4);
    }

    private static void promise2() {
        TuneLoans x = new TuneLoans();
        due("byte 0", x.type(0, 0), 1);
        due("byte 255", x.type(0, 255), 2);
        due("the other text", x.type(1, 'a'), 1);
        due("byte -1", x.type(0, -1), BAD);
        due("byte 256", x.type(0, 256), BAD);
        due("text -1", x.type(-1, 'a'), BAD);
        due("text 2", x.type(2, 'a'), BAD);
        for (int far : FAR_OUT) {
            due("text far out", x.type(far, 'a'), BAD);
            due("byte far out", x.type(0, far), BAD);
        }
        due("refusals change nothing", x.count(2), 2);
        for (int k = 3; k <= 59; k++) due("tunes' byte " + k, x.type(0, 'a'), k);
        due("tunes' byte 60", x.type(0, 'a'), FULL);
        due("BAD ahead of FULL", x.type(0, 256), BAD);
        for (int k = 2; k <= 23; k++) due("borrowers' byte " + k, x.type(1, 'a'), k);
        due("borrowers' byte 24", x.type(1, 'a'), FULL);
        due("a refused byte is not there", x.count(2) + 100 * x.count(3), 2359);
    }

    private static void promise3() {
        TuneLoans x = bank("ab;", "a+b");
        due("wipe(0)", x.wipe(0), 3);
        due("it is empty", x.count(2), 0);
        due("and well", x.fault(0), NONE);
        due("the other text stays", x.count(3), 3);
        due("again", x.wipe(0), 0);
        due("wipe(1)", x.wipe(1), 3);
        due("borrowers are gone", x.count(1), 0);
        due("they are well", x.fault(1), NONE);
        due("wipe(-1)", x.wipe(-1), BAD);
        due("wipe(2)", x.wipe(2), BAD);
        due("a byte then", x.type(0, 'c'), 1);
        due("it is the first", x.tune(0, 0), 2);
    }

    private static void promise4() {
        TuneLoans x = bank("abz", "a+b");
        due("undo(0)", x.undo(0), 2);
        due("the last byte went", x.tune(0, NONE), 2);
        due("undo(1)", x.undo(1), 2);
        due("a borrower less", x.count(1), 0);
        due("to one", x.undo(0), 1);
        due("to none", x.undo(0), 0);
        due("of none", x.undo(0), NOT);
        due("undo(-1)", x.undo(-1), BAD);
        due("undo(2)", x.undo(2), BAD);
        TuneLoans y = bank("a", "");
        y.loan(0, 0, 0, 1);
        due("no borrower, so the loan does not count", y.came(0, 0), 0);
        typed(y, 1, "a+b");
        due("one byte more", y.came(0, 0), 1);
        y.undo(1);
        due("one byte less", y.came(0, 0), 0);
    }

    private static void faultOf(int text, String bytes, int want) {
        TuneLoans x = new TuneLoans();
        typed(x, text, bytes);
        due("fault of '" + bytes + "'", x.fault(text), want);
        if (want != NONE) due("as if '" + bytes + "' was empty", x.count(text), 0);
        due("bytes of '" + bytes + "'", x.count(2 + text), bytes.length());
    }

    private static void promise5() {
        String[] tunes = {"", "a", "g", "abcdefgabcde", "a;b;c;d;e;f", "abcdefgabcde;a"};
        for (String text : tunes) faultOf(0, text, NONE);
        faultOf(0, "h", 0);
        faultOf(0, "`", 0);
        faultOf(0, "A", 0);
        faultOf(0, ";", 0);
        faultOf(0, "a;", 2);
        faultOf(0, "a;;", 2);
        faultOf(0, "a;b+c", 3);
        faultOf(0, "a z b", 1);
        faultOf(0, "abcdefgabcdea", 12);
        faultOf(0, "abcdefgabcde;", 13);
        faultOf(0, "g;abcdefgabcdeh", 14);
        faultOf(0, "a;b;c;d;e;f;", 12);
        faultOf(0, "a;b;c;d;e;f;g", 12);
        faultOf(0, "a;b;c;d;e;f;g;a", 12);
        faultOf(0, "a;b;c;d;e;f;;", 12);
        String[] borrowers = {"", "a+b", "g-g", "c/d", "a+b;a+b", "a+b;b-a;c/d;d+d;e+f;f+g"};
        for (String text : borrowers) faultOf(1, text, NONE);
        faultOf(1, "+", 0);
        faultOf(1, "h+a", 0);
        faultOf(1, "a", 1);
        faultOf(1, "a*b", 1);
        faultOf(1, "a,b", 1);
        faultOf(1, "a.b", 1);
        faultOf(1, "ab", 1);
        faultOf(1, "a+", 2);
        faultOf(1, "a+h", 2);
        faultOf(1, "a-;", 2);
        faultOf(1, "a+bb", 3);
        faultOf(1, "a+b;", 4);
        faultOf(1, "a+b;;", 4);
        faultOf(1, "a+b;a", 5);
        faultOf(1, "a+b;a-", 6);
        faultOf(1, "a+b;b-a;c/d;d+d;e+f;f+", 22);
        due("fault(-1)", new TuneLoans().fault(-1), BAD);
        due("fault(2)", new TuneLoans().fault(2), BAD);
    }

    private static void promise6() {
        TuneLoans x = bank("gab;c;abcdefgabcde", "");
        due("how many", x.tune(0, NONE), 3);
        due("the first", x.tune(0, 0), 6);
        due("the last", x.tune(0, 2), 1);
        due("behind the last", x.tune(0, 3), NONE);
        due("far behind", x.tune(0, 11), NONE);
        due("of the second", x.tune(1, 0), 2);
        due("one has one", x.tune(1, NONE), 1);
        due("twelve", x.tune(2, NONE), 12);
        due("the twelfth", x.tune(2, 11), 4);
        due("i -2", x.tune(0, -2), BAD);
        due("i 12", x.tune(2, 12), BAD);
        due("tune -1", x.tune(-1, 0), BAD);
        due("tune 3", x.tune(3, 0), BAD);
        x.type(0, 'x');
        due("with a fault there is none", x.tune(0, NONE), BAD);
    }

    private static void promise7() {
        TuneLoans x = bank("", "a+b;g-c;d/d");
        int[][] want = {{0, 0, 1}, {6, 1, 2}, {3, 2, 3}};
        for (int b = 0; b < 3; b++) {
            for (int k = 0; k < 3; k++) due("borrower(" + b + ", " + k + ")", x.borrower(b, k), want[b][k]);
        }
        due("borrower 3", x.borrower(3, 0), BAD);
        due("borrower -1", x.borrower(-1, 0), BAD);
        due("what -1", x.borrower(0, -1), BAD);
        due("what 3", x.borrower(0, 3), BAD);
        x.undo(1);
        due("with a fault there is none", x.borrower(0, 0), BAD);
    }

    private static void promise8() {
        TuneLoans x = new TuneLoans();
        int[][] bad = {{-1, 0, 0, 1}, {40, 0, 0, 1}, {0, -1, 0, 1}, {0, 6, 0, 1}, {0, 0, -1, 1}, {0, 0, 6, 1},
            {0, 0, 0, 0}, {0, 0, 0, 10}, {Integer.MAX_VALUE, 0, 0, 1}, {0, Integer.MIN_VALUE, 0, 1}};
        for (int[] b : bad) due("a bad loan", x.loan(b[0], b[1], b[2], b[3]), BAD);
        due("nothing was told", x.count(4), 0);
        due("the least", x.loan(0, 0, 0, 1), 1);
        due("the most", x.loan(39, 5, 5, 9), 2);
        for (int k = 3; k <= 12; k++) due("loan " + k, x.loan(k, 1, 2, 3), k);
        due("a thirteenth", x.loan(0, 0, 0, 1), FULL);
        due("BAD ahead of FULL", x.loan(0, 0, 0, 0), BAD);
        due("twelve are left", x.count(4), 12);
    }

    private static void promise9() {
        TuneLoans x = bank("a", "a+b");
        due("of none", x.back(), NOT);
        x.loan(0, 0, 0, 1);
        x.loan(2, 0, 0, 1);
        due("two hummed", x.interest(39), 2);
        due("the last goes", x.back(), 1);
        due("one hummed", x.interest(39), 1);
        due("the first stays", x.came(0, 0), 1);
        due("it goes too", x.back(), 0);
        due("none hummed", x.interest(39), 0);
        due("then none", x.back(), NOT);
        due("one that is undone does not count", x.count(5), 0);
        due("a new one is whole", x.loan(1, 0, 0, 2) + x.came(0, 2), 3);
    }

    private static void promise10() {
        TuneLoans x = bank("a;b", "a+b");
        due("read(-1)", x.read(-1), BAD);
        due("read(4)", x.read(4), BAD);
        due("read(0), lost", x.read(0), NULL);
        due("the finding", x.count(8), 1);
        laid(x, 0, 0, 3, 0, 0, 2, 7, 0, 0, 1, 9, 0, 0);
        due("two are whole", x.read(0), 2);
        due("two are there", x.count(4), 2);
        due("the first came", x.came(0, 2), 2);
        due("the second came", x.came(1, 2), 1);
        TuneLoans y = bank("a;b;c", "a+b;b+b;c+c;a-a");
        laid(y, 0, 1, 4, 2, 3, 6, 11, 1, 2, 5, 20, 2, 2, 1, 7);
        due("three of thirteen items", y.read(0), 3);
        due("to the fourth borrower", y.has(8, 2), 3);
        due("for six years", y.has(8, 2) + y.has(9, 2), 2);
        due("to the third", y.has(15, 1), NONE);
        due("from 11 on", y.has(10, 1) + 10 * y.has(11, 1), 19);
        due("c by its own", y.came(2, 2), 1);
        laid(x, 1, 1, 9, 0, 0, 1, 9, 0, 0, 10, 12, 0, 0, 1);
        due("up to one that may not be", x.read(1), 1);
        due("three are there", x.count(4), 3);
        laid(x, 2, 2, 40, 0, 0, 1, 5, 0, 0, 1);
        due("not one", x.read(2), 0);
        x.sheet(3, 2, 0);
        due("of no items", x.read(3), 0);
        x.sheet(3, 2, 3);
        due("of three items", x.read(3), 0);
        for (int k = 0; k < 8; k++) x.loan(30, 5, 5, 1);
        laid(x, 2, 2, 20, 0, 0, 1, 21, 0, 0, 1);
        due("as there is room", x.read(2), 1);
        due("twelve are there", x.count(4), 12);
        due("no room", x.read(2), 0);
        items("the sheet stays", x, 2, 2, 20, 0, 0, 1, 21, 0, 0, 1);
    }

    private static void promise11() {
        TuneLoans x = bank("bbba", "b-b");
        due("two at first", x.ear(12), 2);
        due("what it was", x.ear(0), 12);
        due("ear -1", x.ear(-1), BAD);
        due("ear 13", x.ear(13), BAD);
        due("it stays", x.count(6), 0);
        x.loan(0, 0, 0, 1);
        due("an ear of 0 knows all", x.came(0, 1), 0);
        x.ear(1);
        due("an ear of 1 knows it", x.came(0, 1), 0);
        x.ear(2);
        due("an ear of 2 does not", x.came(0, 1), 1);
    }

    private static void promise12() {
        TuneLoans x = bank("ab;b;aabb", "a+c;b/c;a-a;b+b");
        x.loan(2, 0, 0, 3);
        notes("ahead", x, 1, 0, "ab");
        notes("hummed in the year of the loan", x, 2, 0, "acb");
        notes("hummed twice", x, 3, 0, "accb");
        notes("hummed for the last time", x, 4, 0, "acccb");
        notes("back at the bank", x, 5, 0, "acccb");
        notes("at the end", x, 39, 0, "acccb");
        notes("another one", x, 39, 1, "b");
        x.loan(0, 2, 2, 2);
        x.loan(0, 2, 1, 1);
        x.loan(1, 2, 1, 1);
        x.loan(2, 2, 1, 1);
        notes("taken away", x, 0, 2, "bb");
        notes("the loans behind don't count: it is not at the bank", x, 1, 2, "bb");
        notes("not known again: the bank has what it had", x, 2, 2, "bb");
        x.ear(0);
        notes("known by an ear of 0", x, 2, 2, "cc");
        TuneLoans y = bank("abcbdabcbdab", "b+e;b-a;a/b");
        y.loan(0, 0, 0, 1);
        notes("each b that it had", y, 0, 0, "abecbedabecbedabe");
        y.loan(1, 0, 1, 1);
        notes("each b goes", y, 1, 0, "aecedaecedae");
        y.loan(2, 0, 2, 1);
        notes("each a becomes b", y, 2, 0, "becedbecedbe");
        TuneLoans z = bank("ab", "a+a");
        z.loan(0, 0, 0, 9);
        notes("32 and the last", z, 4, 0, "a".repeat(32) + "b");
        notes("forty at most", z, 5, 0, "a".repeat(40));
        notes("still out", z, 7, 0, "a".repeat(40));
        notes("one note in common is not enough", z, 8, 0, "ab");
        z.ear(1);
        notes("for an ear of 1 it is", z, 8, 0, "a".repeat(40));
        TuneLoans odd = bank("caaaaaaaaaaa", "a+a;a+b");
        odd.loan(0, 0, 0, 1);
        odd.loan(1, 0, 1, 1);
        notes("cut between a note and what is behind it", odd, 1, 0, "c" + "ab".repeat(19) + "a");
        odd.loan(2, 0, 1, 1);
        notes("forty lent, of which 27 come back", odd, 2, 0, "c" + "abb".repeat(13));
        odd.ear(0);
        for (int k = 3; k < 12; k++) odd.loan(k, 5, 5, 1);
        notes("with twelve loans", odd, 39, 0, "c" + "abb".repeat(13));
        int[][] bad = {{-1, 0, 0}, {40, 0, 0}, {0, -1, 0}, {0, 3, 0}, {0, 0, -2}, {0, 0, 40}};
        for (int[] b : bad) due("notes of no such", x.notes(b[0], b[1], b[2]), BAD);
        due("year 39, note 39", x.notes(39, 0, 39), NONE);
    }

    private static void promise13() {
        TuneLoans x = bank("a;b", "a+b;b+c");
        x.loan(3, 0, 1, 2);
        x.loan(39, 1, 0, 1);
        x.loan(39, 0, 0, 2);
        due("ahead", x.has(2, 0), NONE);
        due("the first year", x.has(3, 0), 1);
        due("back behind the last", x.has(4, 0), NONE);
        due("of one year: back at once", x.has(39, 1), NONE);
        due("still out at the end", x.has(39, 0), 0);
        int[][] bad = {{-1, 0}, {40, 0}, {0, -1}, {0, 2}};
        for (int[] b : bad) due("no such", x.has(b[0], b[1]), BAD);
        x.loan(4, 0, 0, 1);
        due("not lent in the year of its coming back", x.has(4, 0), NONE);
        due("it does not count", x.came(3, 0), 0);
        x.loan(5, 0, 0, 2);
        due("lent in the year behind", x.has(5, 0), 0);
    }

    private static void promise14() {
        TuneLoans x = bank("bbba;ab;c", "b-b;a+c;c/d");
        due("no loan", x.came(0, 0), NO_NUMBER);
        x.loan(0, 0, 0, 2);
        x.loan(0, 1, 1, 3);
        x.loan(1, 1, 0, 1);
        x.loan(5, 5, 0, 1);
        x.loan(5, 0, 5, 1);
        x.loan(38, 1, 1, 3);
        x.loan(38, 2, 2, 2);
        int[][] want = {{1, 1, -3}, {1, 0, 3}, {0, 0, 0}, {0, 0, 0}, {0, 0, 0}, {1, 0, 0}, {1, 1, 0}};
        for (int l = 0; l < want.length; l++) {
            for (int k = 0; k < 3; k++) due("came(" + l + ", " + k + ")", x.came(l, k), want[l][k]);
        }
        due("loan -1", x.came(-1, 0), NO_NUMBER);
        due("loan 7", x.came(7, 0), NO_NUMBER);
        due("what -1", x.came(0, -1), NO_NUMBER);
        due("what 3", x.came(0, 3), NO_NUMBER);
        x.ear(12);
        due("all that was lent is in it", x.came(1, 1), 0);
        x.ear(1);
        due("one note is enough for an ear of 1", x.came(0, 1), 0);
        due("none is not", x.came(6, 1), 1);
        x.ear(0);
        due("but for an ear of 0", x.came(6, 1), 0);
        x.ear(2);
        due("BAD once more", x.came(0, 1), 1);
        x.wipe(1);
        due("without its borrower", x.came(0, 0), 0);
        due("nothing came back", x.came(0, 2), 0);
        due("so it is not BAD either", x.came(0, 1) + x.came(6, 1), 0);
    }

    private static void promise15() {
        TuneLoans x = bank("aab;bb", "a+c;b-b");
        x.loan(1, 0, 0, 2);
        x.loan(3, 1, 1, 1);
        due("ahead", x.interest(0), 0);
        due("one humming", x.interest(1), 2);
        due("two", x.interest(2), 4);
        due("not known: nothing is lost", x.interest(3), 4);
        x.ear(0);
        due("known: the notes are gone", x.interest(3), 2);
        x.loan(3, 0, 1, 9);
        due("lent ones count", x.interest(3), 1);
        x.wipe(1);
        typed(x, 1, "z+z");
        due("a fault: no borrowers", x.interest(39), 0);
        due("year -1", x.interest(-1), NO_NUMBER);
        due("year 40", x.interest(40), NO_NUMBER);
        TuneLoans y = bank("ab", "a-b;b-a");
        y.ear(0);
        y.loan(0, 0, 0, 1);
        due("fewer", y.interest(39), -1);
    }

    private static void promise16() {
        TuneLoans x = bank("a;b", "a+b;b+c");
        due("all at home", x.home(0), 0);
        x.loan(1, 0, 0, 3);
        x.loan(3, 1, 0, 2);
        due("ahead", x.home(0), 0);
        due("one is out, then the other", x.home(1), 4);
        due("from 3 on", x.home(3), 4);
        due("from 4 on", x.home(4), 4);
        x.loan(39, 0, 0, 1);
        due("back at once", x.home(39), 39);
        x.loan(38, 1, 0, 3);
        due("not home any more", x.home(38), NONE);
        due("but ahead", x.home(37), 37);
        due("year -1", x.home(-1), BAD);
        due("year 40", x.home(40), BAD);
        due("no tunes are at home", new TuneLoans().home(39), 39);
    }

    private static void promise17() {
        TuneLoans x = bank("a;ac", "a+b;b+c;c+d;d+e");
        due("it has it", x.lend(0, 1, NONE), 0);
        due("so none hums", x.lend(0, 1, 0), NONE);
        due("no notes", x.lend(0, 0, NONE), 0);
        due("one", x.lend(0, 3, NONE), 1);
        due("the first", x.lend(0, 3, 0), 0);
        due("no second", x.lend(0, 3, 1), NONE);
        due("three", x.lend(0, 15, NONE), 3);
        for (int i = 0; i < 3; i++) due("the i-th", x.lend(0, 15, i), i);
        due("four would do", x.lend(0, 31, NONE), NONE);
        due("so no first", x.lend(0, 31, 0), NONE);
        due("no last", x.lend(0, 31, 2), NONE);
        due("two of another tune", x.lend(1, 15, NONE), 2);
        due("of like ones the least", x.lend(1, 15, 0), 0);
        due("and then", x.lend(1, 15, 1), 2);
        due("nothing of g", x.lend(0, 64, 0), NONE);
        due("all", x.lend(0, 127, NONE), NONE);
        TuneLoans y = bank("ab", "b-b;a/c;a+c;a/c");
        due("without the a that goes", y.lend(0, 7, 0), 2);
        due("the least", y.lend(0, 6, 0), 1);
        due("the fewest ahead of the least", y.lend(0, 6, NONE), 1);
        int[][] bad = {{-1, 0, 0}, {2, 0, 0}, {0, -1, 0}, {0, 128, 0}, {0, 0, -2}, {0, 0, 3}};
        for (int[] b : bad) due("no such", x.lend(b[0], b[1], b[2]), BAD);
        TuneLoans z = bank("aaaaaaaaaaab", "a+a");
        due("what is cut off is gone", z.lend(0, 2, NONE), 0);
        due("no borrowers", bank("ab", "").lend(0, 4, NONE), NONE);
        due("no borrowers, none wanted", bank("ab", "").lend(0, 3, NONE), 0);
    }

    private static void promise18() {
        TuneLoans x = bank("ab;c", "b-b;a+a;a+b");
        due("one", x.longest(0, 1, NONE), 3);
        due("the least of like ones", x.longest(0, 1, 0), 1);
        due("two", x.longest(0, 2, NONE), 5);
        due("two, first", x.longest(0, 2, 0), 1);
        due("two, second", x.longest(0, 2, 1), 1);
        due("three", x.longest(0, 3, NONE), 9);
        for (int i = 0; i < 3; i++) due("three, each", x.longest(0, 3, i), 1);
        due("all alike", x.longest(1, 3, NONE), 1);
        due("so the least", x.longest(1, 3, 2), 0);
        TuneLoans y = bank("a", "a-a");
        due("no note is left", y.longest(0, 1, NONE), 0);
        due("by that one", y.longest(0, 1, 0), 0);
        TuneLoans z = bank("a", "b+b;a+b");
        due("order matters", z.longest(0, 3, NONE), 5);
        TuneLoans one = bank("a;aa", "a+a");
        due("of the first tune", one.longest(0, 1, NONE), 2);
        due("then of the second", one.longest(1, 1, NONE), 4);
        due("first", z.longest(0, 3, 0), 1);
        due("second", z.longest(0, 3, 1), 0);
        due("third", z.longest(0, 3, 2), 0);
        TuneLoans none = bank("a", "");
        due("no borrowers", none.longest(0, 1, NONE), NONE);
        due("so no first", none.longest(0, 3, 2), NONE);
        due("BAD ahead of NONE", none.longest(0, 2, 2), BAD);
        int[][] bad = {{-1, 1, 0}, {2, 1, 0}, {0, 0, NONE}, {0, 4, 0}, {0, 1, -2}, {0, 1, 1}, {0, 3, 3}};
        for (int[] b : bad) due("no such", x.longest(b[0], b[1], b[2]), BAD);
        due("forty at most", bank("aaaaaaaaaaaa", "a+a").longest(0, 3, NONE), 40);
    }

    private static void promise19() {
        TuneLoans x = bank("a;ab;b;c", "a+b;a/b;b-b");
        due("a to ab", x.who(0, 1, 0), 4);
        due("by the first", x.who(0, 1, 1), 1);
        due("a to b", x.who(0, 2, 0), 12);
        due("by the second", x.who(0, 2, 1), 2);
        due("ab to a", x.who(1, 0, 1), 3);
        due("a to itself", x.who(0, 0, 0), 8);
        due("by none", x.who(0, 0, 1), 0);
        due("a to c, how many", x.who(0, 3, 0), 0);
        due("a to c", x.who(0, 3, 1), NONE);
        TuneLoans y = bank("a;abc;abcd", "a+b;b+c;c+d");
        due("of two", y.who(0, 1, 1), 9);
        due("of three", y.who(0, 2, 1), 66);
        due("once", y.who(0, 2, 0), 1);
        TuneLoans z = bank("a;b", "");
        due("no borrowers", z.who(0, 0, 0), 1);
        due("by none", z.who(0, 0, 1), 0);
        due("no way", z.who(0, 1, 1), NONE);
        due("the empty one is none", bank("a;b", "a-a").who(0, 1, 0), 0);
        int[][] bad = {{-1, 0, 0}, {4, 0, 0}, {0, -1, 0}, {0, 4, 0}, {0, 0, -1}, {0, 0, 2}};
        for (int[] b : bad) due("no such", x.who(b[0], b[1], b[2]), BAD);
    }

    private static void promise20() {
        TuneLoans x = bank("abcbdab;bdcaba;a;b;aaaaaaaaaaaa", "");
        due("in that order", x.common(0, 1), 4);
        due("either way", x.common(1, 0), 4);
        due("itself", x.common(0, 0), 7);
        due("one note", x.common(0, 2), 1);
        due("nothing", x.common(2, 3), 0);
        due("twelve with themselves", x.common(4, 4), 12);
        due("repeats count once each", x.common(1, 4), 2);
        due("a turned row", bank("abc;cba", "").common(0, 1), 1);
        int[][] bad = {{-1, 0}, {5, 0}, {0, -1}, {0, 5}};
        for (int[] b : bad) due("no such", x.common(b[0], b[1]), BAD);
    }

    private static void promise21() {
        TuneLoans x = bank("abcbdab;bdcaba;a;b", "");
        due("7 and 6 less 8", x.far(0, 1), 5);
        due("itself", x.far(1, 1), 0);
        due("nothing in common", x.far(2, 3), 2);
        due("far longer", x.far(2, 0), 6);
        int[][] bad = {{-1, 0}, {4, 0}, {0, -1}, {0, 4}};
        for (int[] b : bad) due("no such", x.far(b[0], b[1]), BAD);
    }

    private static void promise22() {
        TuneLoans x = bank("abc;g;abcd;ab;abc", "");
        due("its like", x.nearest(0), 4);
        due("either way", x.nearest(4), 0);
        due("of like ones the least", x.nearest(2), 0);
        due("of nothing in common the shortest", x.nearest(1), 3);
        due("of three", x.nearest(3), 0);
        due("alone", bank("abc", "").nearest(0), NONE);
        due("tune -1", x.nearest(-1), BAD);
        due("tune 5", x.nearest(5), BAD);
    }

    private static void promise23() {
        TuneLoans x = bank("abcd;ad;da;abcd;e;dabcd", "");
        due("of the first", x.mothers(0), 2 + 8);
        due("of a short one", x.mothers(1), 0);
        due("of its like", x.mothers(3), 1 + 2);
        due("of the last", x.mothers(5), 1 + 2 + 4 + 8);
        due("tune -1", x.mothers(-1), BAD);
        due("tune 6", x.mothers(6), BAD);
    }

    private static void tells(String tunes, int tune, int many, int bits) {
        TuneLoans x = bank(tunes, "");
        due("how many tell " + tune + " in " + tunes, x.tells(tune, 0), many);
        due("what tells " + tune + " in " + tunes, x.tells(tune, 1), bits);
    }

    private static void promise24() {
        tells("abc", 0, 0, 0);
        tells("abc;bcd", 0, 1, 1);
        tells("a;ab", 0, 1, 2);
        tells("a;ab", 1, 1, 2);
        tells("ab;cb;ad", 0, 2, 3);
        tells("aaa;bab;abb", 0, 1, 4);
        tells("ab;a;a", 0, 1, 2);
        tells("ab;a;a", 1, NONE, NONE);
        tells("aaaaaaaaaaaa;aaaaaaaaaaab", 0, 1, 2048);
        tells("aaaaa;baaaa;abaaa;aabaa;aaaba;aaaab", 0, 5, 31);
        tells("aba;bba;aca", 0, 2, 3);
        tells("aaaa;bbaa;aabb;baab", 0, 2, 5);
        TuneLoans x = bank("a;b", "");
        due("tune -1", x.tells(-1, 0), BAD);
        due("tune 2", x.tells(2, 0), BAD);
        due("what -1", x.tells(0, -1), BAD);
        due("what 2", x.tells(0, 2), BAD);
    }

    /** Behind two years the last note of its twelve is cut off: an ear of 12 does not know it. */
    private static TuneLoans cut() {
        TuneLoans x = bank("aaaaaaaaaaab", "a+a");
        x.loan(0, 0, 0, 2);
        return x;
    }

    private static void promise25() {
        TuneLoans x = cut();
        due("an ear of 0", x.loses(0), 0);
        due("an ear of 11", x.loses(11), 0);
        due("an ear of 12", x.loses(12), 28);
        due("the ear stays", x.count(6), 2);
        due("what it keeps too", x.interest(39), 28);
        TuneLoans y = bank("bbba", "b-b");
        y.loan(0, 0, 0, 1);
        due("less than nothing", y.loses(2), -3);
        due("an ear of 1", y.loses(1), 0);
        TuneLoans z = bank("b;a", "b-b;a+a");
        z.loan(0, 0, 0, 1);
        z.loan(39, 1, 1, 1);
        due("an ear of 1 keeps what one of 0 gives away", z.loses(1), -1);
        due("as of the last year", z.loses(0), 0);
        due("ear -1", x.loses(-1), NO_NUMBER);
        due("ear 13", x.loses(13), NO_NUMBER);
    }

    private static void promise26() {
        TuneLoans x = cut();
        due("for nothing", x.best(0), 12);
        due("for one", x.best(1), 11);
        due("for as much as it has", x.best(28), 11);
        due("for more", x.best(29), NONE);
        due("the most", x.best(240), NONE);
        due("the ear stays", x.count(6), 2);
        due("-1", x.best(-1), BAD);
        due("241", x.best(241), BAD);
        TuneLoans y = bank("ab", "a-b");
        y.loan(39, 0, 0, 2);
        due("less than nothing by any ear", y.best(0), NONE);
        TuneLoans z = bank("bbba;a", "b-b;a+a");
        z.loan(0, 0, 0, 1);
        z.loan(0, 1, 1, 1);
        due("the greater one", z.best(1), 12);
        TuneLoans zero = bank("b", "b/c;c+c");
        zero.loan(0, 0, 0, 1);
        zero.loan(1, 0, 1, 1);
        due("only by an ear of 0", zero.best(1), 0);
        due("at the year 39", bank("a", "").best(0), 12);
    }

    private static void hums(TuneLoans x, int c, int years, int notes, long above, long below) {
        due("above, c " + c + " years " + years + " notes " + notes, x.hums(c, 0, 0, years, notes, 0), above);
        due("below, c " + c + " years " + years + " notes " + notes, x.hums(c, 0, 0, years, notes, 1), below);
    }

    private static void promise27() {
        TuneLoans x = bank("a;b", "a+a;a-a");
        hums(x, 8, 2, 2, 3, 4);
        hums(x, 8, 2, 1, 1, 1);
        hums(x, 8, 2, 4, 1, 4);
        hums(x, 8, 2, 5, 0, 1);
        hums(x, 1, 1, 2, 1, 16);
        hums(x, 15, 1, 2, 15, 16);
        hums(x, 1, 9, 40, 36467, 1L << 33);
        hums(x, 1, 9, 1, 1, 1);
        hums(x, 0, 9, 2, 0, 1);
        hums(x, 16, 9, 40, 1, 1);
        hums(x, 16, 5, 33, 0, 1);
        hums(x, 16, 5, 32, 1, 1);
        due("by one that takes", x.hums(4, 0, 1, 1, 1, 0), 3);
        due("by one that takes, below", x.hums(4, 0, 1, 1, 1, 1), 4);
        due("of a tune that has no such note", x.hums(4, 1, 1, 9, 1, 0), 1);
        x.ear(12);
        due("no ear listens", x.hums(16, 0, 1, 1, 1, 0), 0);
        int[][] bad = {{-1, 0, 0, 1, 1, 0}, {17, 0, 0, 1, 1, 0}, {0, -1, 0, 1, 1, 0}, {0, 2, 0, 1, 1, 0},
            {0, 0, -1, 1, 1, 0}, {0, 0, 2, 1, 1, 0}, {0, 0, 0, 0, 1, 0}, {0, 0, 0, 10, 1, 0}, {0, 0, 0, 1, 0, 0},
            {0, 0, 0, 1, 41, 0}, {0, 0, 0, 1, 1, -1}, {0, 0, 0, 1, 1, 2}};
        for (int[] b : bad) due("no such", x.hums(b[0], b[1], b[2], b[3], b[4], b[5]), NO_LONG);
        due("a tune that nobody has", new TuneLoans().hums(0, 0, 0, 1, 1, 1), NO_LONG);
    }

    /** The lots by themselves: how often a tune is drawn, by borrowers that add one note each to an a. */
    private static int drawn(int seed, int years, int tunes, int borrowers, int tune, int by) {
        int lot = seed;
        int times = 0;
        for (int year = 0; year < years; year++) {
            lot = lot * 1103515245 + 12345;
            int t = (int) ((lot & 0xffffffffL) / 65536 % tunes);
            lot = lot * 1103515245 + 12345;
            int b = (int) ((lot & 0xffffffffL) / 65536 % borrowers);
            times += t == tune && b == by ? 1 : 0;
        }
        return times;
    }

    private static void promise28() {
        TuneLoans one = bank("a", "a+a");
        due("one year", one.fair(5, 1, 0), 2);
        due("three", one.fair(5, 3, 0), 8);
        due("forty", one.fair(5, 40, 0), 40);
        TuneLoans x = bank("a;a;a", "a+b;c+d");
        for (int seed : new int[] {0, 1, -1, 7, 123456789, Integer.MIN_VALUE, Integer.MAX_VALUE}) {
            for (int t = 0; t < 3; t++) {
                due("seed " + seed + ", tune " + t, x.fair(seed, 9, t), 1 + drawn(seed, 9, 3, 2, t, 0));
                due("seed " + seed + ", again", x.fair(seed, 30, t), 1 + drawn(seed, 30, 3, 2, t, 0));
            }
        }
        x.loan(0, 0, 0, 9);
        due("loans have no say", x.fair(7, 9, 0), 1 + drawn(7, 9, 3, 2, 0, 0));
        due("no borrowers", bank("abc", "").fair(7, 40, 0), 3);
        int[][] bad = {{0, 0, 0}, {0, 41, 0}, {0, 1, -1}, {0, 1, 3}};
        for (int[] b : bad) due("no such", x.fair(b[0], b[1], b[2]), BAD);
    }

    private static void promise29() {
        TuneLoans x = new TuneLoans();
        due("of 60", x.sheet(0, 0, 60), 60);
        due("of none", x.sheet(3, 2, 0), 0);
        laid(x, 1, 1, 5, 6, 7);
        due("below 0", x.sheet(1, 1, -1), SIZE);
        due("the finding", x.count(8), 5);
        items("it stays", x, 1, 1, 5, 6, 7);
        due("new", x.sheet(1, 2, 2), 2);
        items("all 0", x, 1, 2, 0, 0);
        due("above 60", x.sheet(1, 2, 61), BAD);
        due("form 3", x.sheet(1, 3, 1), BAD);
        due("form -1", x.sheet(1, -1, 1), BAD);
        due("sheet -1", x.sheet(-1, 0, 1), BAD);
        due("sheet 4", x.sheet(4, 0, 1), BAD);
        due("BAD ahead of SIZE: sheet", x.sheet(4, 0, -1), BAD);
        due("BAD ahead of SIZE: form", x.sheet(0, 3, -1), BAD);
        due("far below", x.sheet(0, 0, Integer.MIN_VALUE), SIZE);
        due("far above", x.sheet(0, 0, Integer.MAX_VALUE), BAD);
    }

    private static void promise30() {
        TuneLoans x = new TuneLoans();
        due("lost already", x.lose(0), NULL);
        due("the finding", x.count(8), 1);
        x.sheet(0, 1, 7);
        due("seven", x.lose(0), 7);
        due("lost then", x.lose(0), NULL);
        due("no item", x.get(0, 1, 0), NO_ITEM);
        x.sheet(1, 1, 0);
        due("of none", x.lose(1), 0);
        due("lose(-1)", x.lose(-1), BAD);
        due("lose(4)", x.lose(4), BAD);
    }

    private static void promise31() {
        TuneLoans x = new TuneLoans();
        due("lost", x.lay(0, 0, 0, 1), NULL);
        for (int form = 0; form < 3; form++) {
            x.sheet(form, form, 5);
            due("first", x.lay(form, form, 0, 0x12345678), 1);
            due("last", x.lay(form, form, 4, -1), 1);
            x.lay(form, form, 1, 200);
            x.lay(form, form, 2, 0x8000);
        }
        items("bytes", x, 0, 0, 0x78, -56, 0, 0, -1);
        items("shorts", x, 1, 1, 0x5678, 200, -32768, 0, -1);
        items("ints", x, 2, 2, 0x12345678, 200, 32768, 0, -1);
        due("another form", x.lay(0, 1, 0, 1), CAST);
        due("the finding", x.count(8), 3);
        due("CAST ahead of INDEX", x.lay(0, 1, 5, 1), CAST);
        due("behind the last", x.lay(0, 0, 5, 1), INDEX);
        due("the finding then", x.count(8), 2);
        due("below 0", x.lay(0, 0, -1, 1), INDEX);
        due("NULL ahead of CAST and INDEX", x.lay(3, 0, -1, 1), NULL);
        due("BAD ahead of NULL: form", x.lay(3, 3, 0, 1), BAD);
        due("form -1", x.lay(0, -1, 0, 1), BAD);
        due("sheet 4", x.lay(4, 0, 0, 1), BAD);
        due("sheet -1", x.lay(-1, 0, 0, 1), BAD);
        due("the latest finding stays", x.count(8), 1);
        items("nothing changed", x, 0, 0, 0x78, -56, 0, 0, -1);
    }

    private static void finding(String what, TuneLoans x, int got, int number) {
        due(what, got, NO_ITEM);
        due(what + ", the finding", x.count(8), number);
    }

    private static void promise32() {
        TuneLoans x = new TuneLoans();
        finding("sheet 4", x, x.get(4, 0, 0), 0);
        finding("form 3", x, x.get(0, 3, 0), 0);
        finding("lost", x, x.get(0, 0, -1), 1);
        laid(x, 0, 2, Integer.MAX_VALUE, -7);
        due("the first", x.get(0, 2, 0), Integer.MAX_VALUE);
        due("the last", x.get(0, 2, 1), -7);
        finding("another form", x, x.get(0, 1, 2), 3);
        finding("behind", x, x.get(0, 2, 2), 2);
        x.get(0, 1, 0);
        finding("below 0", x, x.get(0, 2, -1), 2);
        finding("sheet -1", x, x.get(-1, 0, 0), 2);
        finding("form -1", x, x.get(1, -1, 0), 2);
    }

    private static void promise33() {
        TuneLoans x = new TuneLoans();
        laid(x, 0, 1, 1, 2, 3, 4, 5);
        x.sheet(1, 1, 4);
        due("three", x.copy(0, 2, 1, 1, 3), 1);
        items("come", x, 1, 1, 0, 3, 4, 5);
        items("and stay", x, 0, 1, 1, 2, 3, 4, 5);
        due("forward in itself", x.copy(0, 0, 0, 1, 4), 1);
        items("as they were", x, 0, 1, 1, 1, 2, 3, 4);
        due("backward in itself", x.copy(0, 2, 0, 0, 3), 1);
        items("as they were", x, 0, 1, 2, 3, 4, 3, 4);
        due("none", x.copy(0, 5, 1, 4, 0), 1);
        int[][] index = {{-1, 0, 1}, {0, -1, 1}, {0, 0, -1}, {5, 0, 1}, {3, 0, 3}, {0, 4, 1}, {0, 0, 5}, {6, 0, 0},
            {0, 5, 0}, {Integer.MAX_VALUE, 0, 1}, {1, 1, Integer.MAX_VALUE}, {0, Integer.MAX_VALUE, 2},
            {Integer.MIN_VALUE, 0, 0}};
        for (int[] b : index) due("not so many", x.copy(0, b[0], 1, b[1], b[2]), INDEX);
        due("the finding", x.count(8), 2);
        x.sheet(2, 2, 4);
        due("unlike forms", x.copy(0, 0, 2, 0, 1), STORE);
        due("the finding then", x.count(8), 4);
        due("STORE ahead of INDEX", x.copy(2, -1, 0, 0, 9), STORE);
        due("from a lost one", x.copy(3, 0, 0, 0, 1), NULL);
        due("to a lost one", x.copy(2, 0, 3, -1, 1), NULL);
        due("the finding last", x.count(8), 1);
        int[] sheets = {-1, 4};
        for (int s : sheets) {
            due("from no sheet", x.copy(s, 0, 3, 0, 1), BAD);
            due("to no sheet", x.copy(3, 0, s, 0, 1), BAD);
        }
        items("nothing changed", x, 0, 1, 2, 3, 4, 3, 4);
        items("nor here", x, 1, 1, 0, 3, 4, 5);
    }

    private static void promise34() {
        TuneLoans x = bank("ag;b", "a+c");
        x.loan(1, 0, 0, 2);
        laid(x, 0, 0, 9, 9, 9, 9);
        due("as many as notes", x.write(0, 0, 0), 2);
        items("the rest stays", x, 0, 0, 0, 6, 9, 9);
        due("as many as items", x.write(39, 0, 0), 4);
        items("all of them", x, 0, 0, 0, 2, 2, 6);
        x.sheet(1, 1, 1);
        due("cut to its items", x.write(39, 0, 1), 1);
        x.sheet(2, 2, 0);
        due("of no items", x.write(0, 0, 2), 0);
        due("lost", x.write(0, 0, 3), NULL);
        due("the finding", x.count(8), 1);
        int[][] bad = {{-1, 0, 3}, {40, 0, 3}, {0, -1, 3}, {0, 2, 3}, {0, 0, -1}, {0, 0, 4}};
        for (int[] b : bad) due("BAD ahead of NULL", x.write(b[0], b[1], b[2]), BAD);
    }

    private static void promise35() {
        TuneLoans x = bank("ab;c", "a+b;b-a;c/d");
        x.loan(0, 0, 0, 2);
        x.loan(1, 0, 0, 1);
        x.loan(1, 1, 2, 1);
        x.ear(7);
        x.lose(0);
        int[] want = {2, 3, 4, 11, 3, 2, 7, 3, 1};
        for (int k = 0; k < want.length; k++) due("count(" + k + ")", x.count(k), want[k]);
        due("count(-1)", x.count(-1), BAD);
        x.back();
        due("one that counted is undone", x.count(5), 1);
        for (int k = 2; k < 12; k++) x.loan(k, 1, 2, 1);
        due("twelve, but for the one that came too early", x.count(5), 11);
        for (int k = 2; k < 12; k++) x.back();
        x.loan(1, 1, 2, 1);
        due("count(9)", x.count(9), BAD);
        x.type(0, ';');
        int[] faulty = {0, 3, 5, 11, 3, 0, 7, 0, 1};
        for (int k = 0; k < faulty.length; k++) due("with a fault count(" + k + ")", x.count(k), faulty[k]);
        x.sheet(0, 0, -1);
        due("the latest", x.count(8), 5);
    }

    /** A bank with loans in its first years, and one at the end. */
    private static TuneLoans anyBank(java.util.Random random) {
        StringBuilder tunes = new StringBuilder();
        for (int k = 0; k < 50; k++) {
            tunes.append(k % 9 == 8 ? ';' : (char) ('a' + random.nextInt(4)));
        }
        StringBuilder borrowers = new StringBuilder();
        for (int b = 0; b < 4; b++) {
            borrowers.append(b == 0 ? "" : ";").append((char) ('a' + random.nextInt(4)));
            borrowers.append("++-/".charAt(random.nextInt(4))).append((char) ('a' + random.nextInt(4)));
        }
        TuneLoans x = bank(tunes.toString(), borrowers.toString());
        for (int l = 0; l < 9; l++) x.loan(random.nextInt(9), random.nextInt(6), random.nextInt(4), 1 + random.nextInt(4));
        x.loan(39, 0, 0, 1 + random.nextInt(2));
        return x;
    }

    private static void promise36() {
        TuneLoans x = new TuneLoans();
        due("of a new one", x.digest(), digestByCalls(x));
        TuneLoans y = bank("abac;aabbacc;bc;ddd;aaaabd;abacab", "a+d;b-a;c/d;d+a");
        for (int l = 0; l < 6; l++) y.loan(3 * l, l, l % 4, 1 + l);
        y.loan(37, 0, 0, 1);
        y.loan(38, 3, 3, 9);
        due("of a full one", y.digest(), digestByCalls(y));
        y.lose(0);
        due("a finding is not in it", y.digest(), digestByCalls(y));
        long before = y.digest();
        due("it changes nothing", y.digest(), before);
        due("a finding stays", y.count(8), 1);
        y.wipe(1);
        due("without borrowers", y.digest(), digestByCalls(y));
        TuneLoans ears = bank("aaaaaaaaabbb;aaaaaaaabbbb", "b-b");
        ears.loan(0, 0, 0, 1);
        ears.loan(0, 1, 0, 1);
        due("by an ear of 9", ears.digest(), digestByCalls(ears));
        for (int seed = 1; seed <= 60; seed++) {
            TuneLoans any = anyBank(new java.util.Random(seed));
            due("of any bank, " + seed, any.digest(), digestByCalls(any));
        }
        due("the ear stays", y.count(6), 2);
        y.type(0, ';');
        due("with a fault", y.digest(), digestByCalls(y));
    }

    private static void first18() {
        place = "promise 1"; promise1();
        place = "promise 2"; promise2();
        place = "promise 3"; promise3();
        place = "promise 4"; promise4();
        place = "promise 5"; promise5();
        place = "promise 6"; promise6();
        place = "promise 7"; promise7();
        place = "promise 8"; promise8();
        place = "promise 9"; promise9();
        place = "promise 10"; promise10();
        place = "promise 11"; promise11();
        place = "promise 12"; promise12();
        place = "promise 13"; promise13();
        place = "promise 14"; promise14();
        place = "promise 15"; promise15();
        place = "promise 16"; promise16();
        place = "promise 17"; promise17();
        place = "promise 18"; promise18();
    }

    private static void last18() {
        place = "promise 19"; promise19();
        place = "promise 20"; promise20();
        place = "promise 21"; promise21();
        place = "promise 22"; promise22();
        place = "promise 23"; promise23();
        place = "promise 24"; promise24();
        place = "promise 25"; promise25();
        place = "promise 26"; promise26();
        place = "promise 27"; promise27();
        place = "promise 28"; promise28();
        place = "promise 29"; promise29();
        place = "promise 30"; promise30();
        place = "promise 31"; promise31();
        place = "promise 32"; promise32();
        place = "promise 33"; promise33();
        place = "promise 34"; promise34();
        place = "promise 35"; promise35();
        place = "promise 36"; promise36();
    }

    public static void main(String[] args) {
        first18();
        last18();
        end("36 promises");
    }
}
