/** What the tests of promises and of sentences share: calls with what is due, and banks to ask. */
class Checks {
    static final int NONE = -1, BAD = -2, NOT = -3, FULL = -4;
    static final int NULL = -11, INDEX = -12, CAST = -13, STORE = -14, SIZE = -15;
    static final int NO_NUMBER = -1002, NO_ITEM = Integer.MIN_VALUE;
    static final long NO_LONG = Long.MIN_VALUE + 2;
    static final int[] FAR_OUT = {Integer.MIN_VALUE, Integer.MAX_VALUE};

    /** What is tested just now; it is told with a wrong answer. */
    static String place = "";
    static int wrong;
    static int checks;

    static void due(String what, long got, long want) {
        checks++;
        if (got != want) {
            wrong++;
            System.out.println(place + ": " + what + " answered " + got + ", due is " + want);
        }
    }

    static void typed(TuneLoans x, int text, String bytes) {
        for (int k = 0; k < bytes.length(); k++) x.type(text, bytes.charAt(k));
    }

    static TuneLoans bank(String tunes, String borrowers) {
        TuneLoans x = new TuneLoans();
        typed(x, 0, tunes);
        typed(x, 1, borrowers);
        return x;
    }

    /** A sheet of a form with such items. */
    static void laid(TuneLoans x, int s, int form, int... items) {
        x.sheet(s, form, items.length);
        for (int i = 0; i < items.length; i++) x.lay(s, form, i, items[i]);
    }

    static void items(String what, TuneLoans x, int s, int form, int... want) {
        for (int i = 0; i < want.length; i++) due(what + ", item " + i, x.get(s, form, i), want[i]);
        due(what + ", behind the last", x.get(s, form, want.length), NO_ITEM);
    }

    static void notes(String what, TuneLoans x, int year, int tune, String want) {
        due(what + ", how many", x.notes(year, tune, NONE), want.length());
        for (int i = 0; i < want.length(); i++) due(what + ", note " + i, x.notes(year, tune, i), want.charAt(i) - 'a');
        if (want.length() < 40) due(what + ", behind the last", x.notes(year, tune, want.length()), NONE);
    }

    static long digestByCalls(TuneLoans x) {
        long h = 17;
        for (int k = 0; k <= 7; k++) h = 31 * h + x.count(k);
        for (int k = 0; k <= 1; k++) h = 31 * h + x.fault(k);
        for (int it = 0; it < x.count(0); it++) {
            long[] of = {x.tune(it, -1), x.notes(5, it, -1), x.notes(39, it, -1), x.notes(5, it, 2), x.has(5, it),
                x.lend(it, 9, -1), x.lend(it, 9, 0), x.longest(it, 3, -1), x.longest(it, 3, 0), x.who(0, it, 0),
                x.who(0, it, 1), x.far(0, it), x.nearest(it), x.mothers(it), x.tells(it, 0), x.tells(it, 1),
                x.fair(7, 9, it), x.hums(5, it, 0, 4, 9, 0), x.hums(5, it, 0, 4, 9, 1)};
            for (long v : of) h = 31 * h + v;
        }
        for (int it = 0; it < x.count(1); it++) {
            for (int k = 0; k <= 2; k++) h = 31 * h + x.borrower(it, k);
        }
        for (int it = 0; it < x.count(4); it++) {
            for (int k = 0; k <= 2; k++) h = 31 * h + x.came(it, k);
        }
        long[] last = {x.interest(0), x.interest(9), x.interest(39), x.home(3), x.loses(9), x.best(1)};
        for (long v : last) h = 31 * h + v;
        return h;
    }

    /** Prints how many checks there were; the program ends with 1 if one was not as due. */
    static void end(String what) {
        System.out.println(what + ", " + checks + " checks, " + wrong + " not as due");
        if (wrong != 0) System.exit(1);
    }
}
