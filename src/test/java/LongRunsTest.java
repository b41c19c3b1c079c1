import java.util.Arrays;
import java.util.List;

/** "An object is used for at most 512 calls after it has been made": runs as long as that, each on one object, with
 *  full texts (59 and 23 bytes), all 12 LOANS, and texts and LOANS that are undone and told again on the way. */
public final class LongRunsTest extends Checks {
    private static final int CALLS = 512, RANDOM_RUNS = 100;

    // ---- worked out by hand

    /** One object, and how often it was called: each check here is one call. */
    private static final class Counted {
        static final String[] TEXTS = {"abcdefgabcde;aaaaaaaaaaaa;gfedcbagfedc;abababababab;ccccc;g",
            "a+b;b-a;c/d;d+d;e/a;g+g"};
        static final int[][] LOANS = {{0, 5, 5, 9}, {0, 4, 2, 1}, {1, 4, 2, 2}, {3, 0, 0, 1}, {3, 0, 1, 1},
            {4, 0, 1, 2}, {5, 1, 0, 2}, {10, 1, 1, 1}, {12, 3, 0, 9}, {25, 2, 4, 1}, {30, 2, 3, 3}, {35, 0, 3, 9}};

        final TuneLoans x = new TuneLoans();
        int calls;

        void is(String what, long got, long want) {
            calls++;
            due("call " + calls + ", " + what, got, want);
        }

        /** The rest of a text, to its end. */
        void types(int text, int from) {
            for (int k = from; k < TEXTS[text].length(); k++) is("type", x.type(text, TEXTS[text].charAt(k)), k + 1);
        }

        void undoes(int text, int from, int to) {
            for (int left = from - 1; left >= to; left--) is("undo", x.undo(text), left);
        }

        void lends(int from) {
            for (int k = from; k < 12; k++) {
                is("loan " + k, x.loan(LOANS[k][0], LOANS[k][1], LOANS[k][2], LOANS[k][3]), k + 1);
            }
        }

        void takesBack(int to) {
            for (int left = 11; left >= to; left--) is("back", x.back(), left);
        }

        void tellsAll() {
            types(0, 0);
            types(1, 0);
            lends(0);
        }

        void nothingMoreFits() {
            is("a sixtieth byte", x.type(0, 'a'), FULL);
            is("a 24th byte", x.type(1, ';'), FULL);
            is("a thirteenth loan", x.loan(0, 0, 0, 1), FULL);
        }

        /** All is told, and the EAR is 2: loan 4 does not count, loans 1 and 2 are BAD, loan 11 is out to the end. */
        void allStands() {
            int[] interest = {1, 3, 7, 17, 29, 49, 61};
            for (int y = 0; y < interest.length; y++) is("interest by " + y, x.interest(y), interest[y]);
            is("interest by 10, tune 1 has no b any more", x.interest(10), 37);
            is("interest by 16, tune 3 is cut", x.interest(16), 65);
            is("interest by 31", x.interest(31), 71);
            is("interest by 37", x.interest(37), 93);
            is("interest by 39", x.interest(39), 109);
            int[] more = {39, 0, 0, 2, 0, -4, 24, -24, 28, 0, 14, 0};
            for (int k = 0; k < more.length; k++) is("more of loan " + k, x.came(k, 2), more[k]);
            is("loan 4 does not count", x.came(4, 0), 0);
            is("loan 11 counts", x.came(11, 0), 1);
            is("loan 2 is BAD", x.came(2, 1), 1);
            is("loan 0 is not", x.came(0, 1), 0);
            is("eleven count", x.count(5), 11);
            is("home from 0 on", x.home(0), 8);
            is("home from 12 on", x.home(12), 20);
            is("never home from 35 on", x.home(35), NONE);
            is("tune 4 as hummed, in 1", x.notes(1, 4, 0), 3);
            is("and as lent, behind 2", x.notes(2, 4, 0), 2);
            is("who has tune 0", x.has(39, 0), 3);
            is("one turn hums b into tune 1", x.lend(1, 2, NONE), 1);
            is("one turn makes two notes of tune 5", x.longest(5, 1, NONE), 2);
            is("by borrower 5", x.longest(5, 1, 0), 5);
        }

        /** By an EAR of 12 loans 5, 8 and 9 are BAD too: ten NOTES are in common. */
        void anEarOf12() {
            is("ear 12", x.ear(12), 2);
            is("interest by 39", x.interest(39), 81);
            is("12 loses", x.loses(12), 28);
            is("10 loses", x.loses(10), 0);
            List<Integer> bad = List.of(1, 2, 5, 8, 9);
            for (int k = 0; k < 12; k++) is("loan " + k + " is BAD", x.came(k, 1), bad.contains(k) ? 1 : 0);
            is("loan 5 brought four less", x.came(5, 2), -4);
            is("best for 109", x.best(109), 10);
            is("best for 82", x.best(82), 10);
            is("best for 81", x.best(81), 12);
            is("best for 110", x.best(110), NONE);
            is("ear 2 again", x.ear(2), 12);
        }

        /** To the 512th call; that is a digest, as the calls of another object tell it, to which nothing was undone. */
        void lastCalls() {
            while (calls + 5 <= CALLS) {
                undoes(0, 59, 58);
                is("it ends too early", x.fault(0), 58);
                types(0, 58);
                is("all is as it was", x.interest(39), 109);
            }
            while (calls + 1 < CALLS) is("all loans are there", x.count(4), 12);
            Counted other = new Counted();
            other.tellsAll();
            is("digest", x.digest(), digestByCalls(other.x));
            due("calls", calls, CALLS);
        }
    }

    private static void undoneAndToldAgain() {
        place = "undone and told again";
        Counted c = new Counted();
        c.tellsAll();
        c.nothingMoreFits();
        c.allStands();

        c.takesBack(7);
        c.is("seven are left", c.x.count(4), 7);
        c.is("interest without the last five", c.x.interest(39), 39 - 2 + 24);
        c.lends(7);
        c.allStands();

        c.undoes(1, 23, 19);
        c.is("five borrowers are well", c.x.fault(1), NONE);
        c.is("the sixth had tune 5", c.x.came(0, 0), 0);
        c.is("interest without it", c.x.interest(39), 109 - 39);
        c.undoes(1, 19, 18);
        c.is("it ends too early", c.x.fault(1), 18);
        c.is("no borrowers", c.x.count(1), 0);
        c.is("no loan counts", c.x.count(5), 0);
        c.undoes(1, 18, 0);
        c.is("none to undo", c.x.undo(1), NOT);
        c.types(1, 0);
        c.allStands();

        c.undoes(0, 59, 58);
        c.is("it ends too early", c.x.fault(0), 58);
        c.is("no tunes", c.x.tune(0, NONE), BAD);
        c.is("no interest", c.x.interest(39), 0);
        c.undoes(0, 58, 57);
        c.is("five tunes are well", c.x.fault(0), NONE);
        c.is("no sixth", c.x.notes(39, 5, NONE), BAD);
        c.is("interest without it", c.x.interest(39), 109 - 39);
        c.undoes(0, 57, 13);
        c.is("another tune 1", c.x.type(0, 'b'), 14);
        c.is("nothing is left of it, so loan 7 is BAD", c.x.came(7, 1), 1);
        c.is("interest of tune 0 alone", c.x.interest(39), 28);
        c.undoes(0, 14, 13);
        c.types(0, 13);
        c.allStands();
        c.anEarOf12();
        c.lastCalls();
    }

    private static void wipedAndRead() {
        place = "wiped and read";
        Counted c = new Counted();
        c.tellsAll();
        c.is("wipe", c.x.wipe(1), 23);
        c.is("no loan counts", c.x.count(5), 0);
        c.is("all are at home", c.x.home(35), 35);
        c.types(1, 0);
        c.allStands();
        c.is("wipe", c.x.wipe(0), 59);
        c.is("no tunes", c.x.count(7), 0);
        c.is("no interest", c.x.interest(39), 0);
        c.types(0, 0);
        c.allStands();

        c.takesBack(0);
        c.is("none to undo", c.x.back(), NOT);
        c.is("no interest", c.x.interest(39), 0);
        c.is("a sheet", c.x.sheet(2, 0, 50), 50);
        for (int i = 0; i < 48; i++) c.is("item " + i, c.x.lay(2, 0, i, Counted.LOANS[i / 4][i % 4]), 1);
        c.is("twelve are read", c.x.read(2), 12);
        c.is("then none", c.x.read(2), 0);
        c.nothingMoreFits();
        c.allStands();
        c.takesBack(4);
        c.is("the last eight come ahead", c.x.copy(2, 16, 2, 0, 32), 1);
        c.is("eight are read", c.x.read(2), 8);
        c.allStands();
        c.anEarOf12();
        c.lastCalls();
    }

    /** What is told to one object is nothing to the other one. */
    private static void twoSideBySide() {
        place = "two side by side";
        Counted a = new Counted();
        Counted b = new Counted();
        a.tellsAll();
        b.is("no tunes", b.x.count(0), 0);
        b.is("no loans", b.x.count(4), 0);
        b.tellsAll();
        a.is("wipe", a.x.wipe(0), 59);
        b.allStands();
        a.is("no interest", a.x.interest(39), 0);
        a.types(0, 0);
        b.is("another ear", b.x.ear(12), 2);
        b.is("another interest", b.x.interest(39), 81);
        a.allStands();
        b.takesBack(0);
        a.anEarOf12();
        b.is("it stays", b.x.ear(2), 12);
        b.lends(0);
        a.is("a sheet", a.x.sheet(0, 2, 1), 1);
        b.is("none", b.x.lose(0), NULL);
        b.is("a finding", b.x.count(8), 1);
        a.is("no finding", a.x.count(8), 0);
        a.is("its item", a.x.get(0, 2, 0), 0);
        b.allStands();
        a.lastCalls();
        b.lastCalls();
    }

    // ---- drawn from fixed seeds, beside the plain bank

    /** One object, whose texts are full and whose loans are twelve; what is undone is told again, or told otherwise. */
    private static final class Drawn {
        /** More calls than questions, a text wiped and typed, and the last calls of a run take together. */
        static final int DEAREST = 90;
        static final List<String> CHANGES = List.of("type", "wipe", "undo", "loan", "back", "read");

        final RandomCalls random;
        final BesidePlain both = new BesidePlain();
        final List<String> questions = RandomCalls.names();
        final String[] texts = new String[2];
        final int kinds;
        boolean well = true;

        Drawn(long seed) {
            random = new RandomCalls(seed);
            kinds = 1 + random.below(7);
            questions.removeAll(CHANGES);
            questions.remove("digest");
        }

        void call(String name, int... args) throws ReflectiveOperationException {
            well = well && both.same(name, args);
        }

        /** The call, and what it has to answer whatever the plain bank says. */
        void answers(long want, String name, int... args) throws ReflectiveOperationException {
            call(name, args);
            if (well) due(name + Arrays.toString(args), both.answer(), want);
        }

        void asks(int many) throws ReflectiveOperationException {
            for (int k = 0; k < many; k++) {
                String name = questions.get(random.below(questions.size()));
                call(name, random.arguments(name));
            }
        }

        void fills(int text) throws ReflectiveOperationException {
            texts[text] = text == 0 ? random.fullTunes(kinds) : random.borrowers(kinds, 6);
            for (int k = 0; k < texts[text].length(); k++) answers(k + 1, "type", text, texts[text].charAt(k));
        }

        void undoesBytes(int text) throws ReflectiveOperationException {
            int full = texts[text].length();
            int left = full - 1 - random.below(12);
            for (int k = full - 1; k >= left; k--) answers(k, "undo", text);
            asks(random.below(4));
            boolean otherwise = random.below(4) == 0;
            StringBuilder then = new StringBuilder(texts[text].substring(0, left));
            for (int k = left; k < full; k++) {
                then.append(otherwise ? (char) random.likelyByte() : texts[text].charAt(k));
                answers(k + 1, "type", text, then.charAt(k));
            }
            texts[text] = then.toString();
        }

        void undoesLoans() throws ReflectiveOperationException {
            int left = random.below(12);
            for (int k = 11; k >= left; k--) answers(k, "back");
            asks(random.below(4));
            for (int k = left; k < 12; k++) answers(k + 1, "loan", random.someLoan());
        }

        void readsLoans() throws ReflectiveOperationException {
            int many = 1 + random.below(4);
            int s = random.below(4);
            int form = random.below(3);
            int more = random.below(4);
            for (int k = 11; k >= 12 - many; k--) answers(k, "back");
            answers(4 * many + more, "sheet", s, form, 4 * many + more);
            for (int l = 0; l < many; l++) {
                int[] loan = random.someLoan();
                for (int k = 0; k < 4; k++) answers(1, "lay", s, form, 4 * l + k, loan[k]);
            }
            answers(many, "read", s);
        }

        void changes() throws ReflectiveOperationException {
            switch (random.below(10)) {
                case 0:
                    int text = random.below(2);
                    answers(texts[text].length(), "wipe", text);
                    asks(random.below(4));
                    fills(text);
                    break;
                case 1: case 2:
                    undoesBytes(0);
                    break;
                case 3: case 4:
                    undoesBytes(1);
                    break;
                case 5: case 6:
                    undoesLoans();
                    break;
                case 7: case 8:
                    readsLoans();
                    break;
                default:
                    answers(FULL, "type", 0, random.between(0, 255));
                    answers(FULL, "type", 1, random.between(0, 255));
                    answers(FULL, "loan", random.someLoan());
            }
        }

        boolean run() throws ReflectiveOperationException {
            fills(0);
            answers(NONE, "fault", 0);
            fills(1);
            answers(NONE, "fault", 1);
            for (int k = 1; k <= 12; k++) answers(k, "loan", random.someLoan());
            while (well && both.calls() + DEAREST < CALLS) {
                asks(5 + random.below(15));
                changes();
            }
            answers(59, "count", 2);
            answers(23, "count", 3);
            answers(12, "count", 4);
            while (well && both.calls() < CALLS - 1) asks(1);
            call("digest");
            if (well) due("calls", both.calls(), CALLS);
            return well;
        }
    }

    private static void drawn() throws ReflectiveOperationException {
        for (int seed = 1; seed <= RANDOM_RUNS && wrong < 3; seed++) {
            place = "run " + seed;
            due("is as the plain bank", new Drawn(seed).run() ? 1 : 0, 1);
        }
    }

    public static void main(String[] args) throws ReflectiveOperationException {
        undoneAndToldAgain();
        wipedAndRead();
        twoSideBySide();
        drawn();
        end("runs of " + CALLS + " calls");
    }
}
