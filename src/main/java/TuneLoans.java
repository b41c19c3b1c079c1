/** A bank that takes in tunes and lends them out; they come back with ornaments. README.md tells how to use it. */
public final class TuneLoans {
    public static final int NONE = -1, BAD = -2, NOT = -3, FULL = -4;

    private static final int BAD_OF_ANY_NUMBER = -1002;
    private static final int BAD_OF_ITEM = -2147483648;
    private static final long BAD_OF_LONG = -9223372036854775806L;

    private static final int TUNE_TEXT = 0, BORROWER_TEXT = 1, TEXTS = 2;
    private static final int TUNE_BYTES = 59, BORROWER_BYTES = 23, BYTE_VALUES = 256;
    private static final int MOST_TUNES = 6, MOST_BORROWERS = 6, MOST_LOANS = 12;
    private static final int NOTE_KINDS = 7, ALL_NOTE_BITS = 127;
    private static final int MOST_TOLD_NOTES = 12, MOST_NOTES = 40;
    private static final int YEARS = 40, MOST_LOAN_YEARS = 9, MOST_EAR = 12, FIRST_EAR = 2, MOST_INTEREST = 240;
    private static final int MOST_TURNS = 3, ROW_BASE = 7;
    private static final int SIXTEENTHS = 16;
    private static final int HOW_ADDS = 0, HOW_TAKES = 1;
    private static final int SHEETS = 4, FORMS = 3, BYTE_FORM = 0, SHORT_FORM = 1, MOST_ITEMS = 60, ITEMS_OF_LOAN = 4;
    private static final int NULL = 1, INDEX = 2, CAST = 3, STORE = 4, SIZE = 5, LATEST_FINDING = 8;

    private final Book book;
    private final Years years;
    private final Turns turns;
    private final Likeness likeness;
    private final Chance chance;
    private final Sheet[] sheets;
    private int ear;
    private int finding;

    public TuneLoans() {
        book = new Book();
        years = new Years();
        turns = new Turns();
        likeness = new Likeness();
        chance = new Chance();
        sheets = new Sheet[SHEETS];
        for (int s = 0; s < SHEETS; s++) {
            sheets[s] = new Sheet();
        }
        ear = FIRST_EAR;
    }

    // ---- tunes, borrowers, loans

    public int type(int text, int b) {
        if (!isText(text) || !within(b, 0, BYTE_VALUES - 1)) {
            return BAD;
        }
        Text typed = book.texts[text];
        if (typed.size >= typed.bytes.length) {
            return FULL;
        }
        typed.bytes[typed.size] = b;
        return resized(text, typed.size + 1);
    }

    public int wipe(int text) {
        if (!isText(text)) {
            return BAD;
        }
        int had = book.texts[text].size;
        resized(text, 0);
        return had;
    }

    public int undo(int text) {
        if (!isText(text)) {
            return BAD;
        }
        int had = book.texts[text].size;
        return had == 0 ? NOT : resized(text, had - 1);
    }

    public int fault(int text) {
        return isText(text) ? book.texts[text].faultAt : BAD;
    }

    public int tune(int tune, int i) {
        if (!isTune(tune) || !within(i, NONE, MOST_TOLD_NOTES - 1)) {
            return BAD;
        }
        Tune told = book.tunes[tune];
        return i == NONE ? told.size : told.at(i);
    }

    public int borrower(int borrower, int what) {
        if (!isBorrower(borrower) || !within(what, 0, 2)) {
            return BAD;
        }
        Borrower told = book.borrowers[borrower];
        return what == 0 ? told.x : what == 1 ? told.how : told.y;
    }

    public int loan(int year, int tune, int borrower, int years) {
        if (!isYear(year) || !within(tune, 0, MOST_TUNES - 1) || !within(borrower, 0, MOST_BORROWERS - 1)
                || !within(years, 1, MOST_LOAN_YEARS)) {
            return BAD;
        }
        if (book.loanCount >= MOST_LOANS) {
            return FULL;
        }
        Loan told = book.loans[book.loanCount];
        told.year = year;
        told.tune = tune;
        told.borrower = borrower;
        told.years = years;
        book.loanCount++;
        this.years.forget();
        return book.loanCount;
    }

    public int back() {
        if (book.loanCount == 0) {
            return NOT;
        }
        book.loanCount--;
        years.forget();
        return book.loanCount;
    }

    public int read(int s) {
        if (!isSheet(s)) {
            return BAD;
        }
        Sheet from = sheets[s];
        if (from.isLost()) {
            return found(NULL);
        }
        int whole = from.size / ITEMS_OF_LOAN;
        for (int k = 0; k < whole; k++) {
            int i = ITEMS_OF_LOAN * k;
            int loans = loan(from.items[i], from.items[i + 1], from.items[i + 2], from.items[i + 3]);
            if (loans < 0) {
                return k;
            }
        }
        return whole;
    }

    public int ear(int v) {
        if (!isEar(v)) {
            return BAD;
        }
        int was = ear;
        ear = v;
        return was;
    }

    // ---- years

    public int notes(int year, int tune, int i) {
        if (!isYear(year) || !isTune(tune) || !within(i, NONE, MOST_NOTES - 1)) {
            return BAD;
        }
        years.live(book, ear, likeness);
        return i == NONE ? years.sizeOf(year, tune) : years.noteOf(year, tune, i);
    }

    public int has(int year, int tune) {
        if (!isYear(year) || !isTune(tune)) {
            return BAD;
        }
        years.live(book, ear, likeness);
        return years.holderOf(year, tune);
    }

    public int came(int loan, int what) {
        if (!within(loan, 0, book.loanCount - 1) || !within(what, 0, 2)) {
            return BAD_OF_ANY_NUMBER;
        }
        years.live(book, ear, likeness);
        Loan told = book.loans[loan];
        if (what == 2) {
            return told.more;
        }
        boolean so = what == 0 ? told.counts : told.bad;
        return so ? 1 : 0;
    }

    public int interest(int year) {
        return isYear(year) ? interestBy(ear, year) : BAD_OF_ANY_NUMBER;
    }

    public int home(int year) {
        if (!isYear(year)) {
            return BAD;
        }
        years.live(book, ear, likeness);
        for (int y = year; y < YEARS; y++) {
            if (years.allAtBank(book, y)) {
                return y;
            }
        }
        return NONE;
    }

    // ---- turns

    public int lend(int tune, int notes, int i) {
        if (!isTune(tune) || !within(notes, 0, ALL_NOTE_BITS) || !within(i, NONE, MOST_TURNS - 1)) {
            return BAD;
        }
        turns.begin(book.tunes[tune]);
        for (int n = 0; n <= MOST_TURNS; n++) {
            int rows = turns.rowsOf(book, n);
            for (int r = 0; r < rows; r++) {
                if ((turns.after(book, n, r).bits() & notes) == notes) {
                    return i == NONE ? n : turns.turnOf(book, n, r, i);
                }
            }
        }
        return NONE;
    }

    public int longest(int tune, int n, int i) {
        if (!isTune(tune) || !within(n, 1, MOST_TURNS) || !within(i, NONE, n - 1)) {
            return BAD;
        }
        turns.begin(book.tunes[tune]);
        int rows = turns.rowsOf(book, n);
        int most = NONE;
        int by = NONE;
        for (int r = 0; r < rows; r++) {
            int size = turns.after(book, n, r).size;
            if (size > most) {
                most = size;
                by = r;
            }
        }
        return i == NONE || by == NONE ? most : turns.turnOf(book, n, by, i);
    }

    public int who(int tune, int other, int what) {
        if (!isTune(tune) || !isTune(other) || !within(what, 0, 1)) {
            return BAD;
        }
        turns.begin(book.tunes[tune]);
        Tune wanted = book.tunes[other];
        int many = 0;
        int first = NONE;
        for (int n = 0; n <= MOST_TURNS; n++) {
            int rows = turns.rowsOf(book, n);
            for (int r = 0; r < rows; r++) {
                if (turns.after(book, n, r).isLike(wanted)) {
                    first = many == 0 ? turns.figures(book, n, r) : first;
                    many++;
                }
            }
        }
        return what == 0 ? many : first;
    }

    // ---- tunes together

    public int common(int a, int b) {
        return isTune(a) && isTune(b) ? likeness.of(book.tunes[a], book.tunes[b]) : BAD;
    }

    public int far(int a, int b) {
        if (!isTune(a) || !isTune(b)) {
            return BAD;
        }
        return book.tunes[a].size + book.tunes[b].size - 2 * likeness.of(book.tunes[a], book.tunes[b]);
    }

    public int nearest(int tune) {
        if (!isTune(tune)) {
            return BAD;
        }
        int near = NONE;
        int least = 0;
        for (int other = 0; other < book.tuneCount; other++) {
            if (other != tune) {
                int apart = far(tune, other);
                if (near == NONE || apart < least) {
                    near = other;
                    least = apart;
                }
            }
        }
        return near;
    }

    public int mothers(int tune) {
        if (!isTune(tune)) {
            return BAD;
        }
        int bits = 0;
        for (int other = 0; other < book.tuneCount; other++) {
            Tune mother = book.tunes[other];
            if (other != tune && likeness.of(mother, book.tunes[tune]) == mother.size) {
                bits |= 1 << other;
            }
        }
        return bits;
    }

    public int tells(int tune, int what) {
        if (!isTune(tune) || !within(what, 0, 1)) {
            return BAD;
        }
        int fewest = MOST_TOLD_NOTES + 1;
        int least = NONE;
        for (int places = 0; places < 1 << MOST_TOLD_NOTES; places++) {
            int many = Integer.bitCount(places);
            if (many < fewest && tellFromAll(tune, places)) {
                fewest = many;
                least = places;
            }
        }
        return least == NONE || what == 1 ? least : fewest;
    }

    // ---- ears, chance

    public int loses(int ear) {
        return isEar(ear) ? interestBy(0, YEARS - 1) - interestBy(ear, YEARS - 1) : BAD_OF_ANY_NUMBER;
    }

    public int best(int interest) {
        if (!within(interest, 0, MOST_INTEREST)) {
            return BAD;
        }
        for (int by = MOST_EAR; by >= 0; by--) {
            if (interestBy(by, YEARS - 1) >= interest) {
                return by;
            }
        }
        return NONE;
    }

    public long hums(int c, int tune, int borrower, int years, int notes, int what) {
        if (!within(c, 0, SIXTEENTHS) || !isTune(tune) || !isBorrower(borrower)
                || !within(years, 1, MOST_LOAN_YEARS) || !within(notes, 1, MOST_NOTES) || !within(what, 0, 1)) {
            return BAD_OF_LONG;
        }
        chance.weigh(c, years);
        long above = chance.weightOf(book.tunes[tune], book.borrowers[borrower], years, notes);
        int halvings = 4 * years;
        long below = 1L << halvings;
        for (int k = 0; k < halvings && above % 2 == 0; k++) {
            above /= 2;
            below /= 2;
        }
        return what == 0 ? above : below;
    }

    public int fair(int seed, int years, int tune) {
        return within(years, 1, YEARS) && isTune(tune) ? chance.fairSize(book, seed, years, tune) : BAD;
    }

    // ---- sheets

    public int sheet(int s, int form, int n) {
        if (!isSheet(s) || !isForm(form) || n > MOST_ITEMS) {
            return BAD;
        }
        if (n < 0) {
            return found(SIZE);
        }
        sheets[s].begin(form, n);
        return n;
    }

    public int lose(int s) {
        if (!isSheet(s)) {
            return BAD;
        }
        Sheet lost = sheets[s];
        if (lost.isLost()) {
            return found(NULL);
        }
        lost.form = NONE;
        return lost.size;
    }

    public int lay(int s, int form, int i, int v) {
        int refusal = refusalOfItem(s, form, i);
        if (refusal != 0) {
            return refusal;
        }
        sheets[s].put(i, v);
        return 1;
    }

    public int get(int s, int form, int i) {
        return refusalOfItem(s, form, i) != 0 ? BAD_OF_ITEM : sheets[s].items[i];
    }

    public int copy(int s, int i, int t, int j, int n) {
        if (!isSheet(s) || !isSheet(t)) {
            return BAD;
        }
        Sheet from = sheets[s];
        Sheet to = sheets[t];
        if (from.isLost() || to.isLost()) {
            return found(NULL);
        }
        if (from.form != to.form) {
            return found(STORE);
        }
        if (!from.hasSpan(i, n) || !to.hasSpan(j, n)) {
            return found(INDEX);
        }
        System.arraycopy(from.items, i, to.items, j, n);
        return 1;
    }

    public int write(int year, int tune, int s) {
        if (!isYear(year) || !isTune(tune) || !isSheet(s)) {
            return BAD;
        }
        Sheet to = sheets[s];
        if (to.isLost()) {
            return found(NULL);
        }
        years.live(book, ear, likeness);
        int many = Math.min(to.size, years.sizeOf(year, tune));
        for (int i = 0; i < many; i++) {
            to.put(i, years.noteOf(year, tune, i));
        }
        return many;
    }

    public int count(int what) {
        switch (what) {
            case 0:
                return book.tuneCount;
            case 1:
                return book.borrowerCount;
            case 2:
                return book.texts[TUNE_TEXT].size;
            case 3:
                return book.texts[BORROWER_TEXT].size;
            case 4:
                return book.loanCount;
            case 5:
                years.live(book, ear, likeness);
                return book.countingLoans();
            case 6:
                return ear;
            case 7:
                return book.toldNotes();
            case LATEST_FINDING:
                return finding;
            default:
                return BAD;
        }
    }

    public long digest() {
        long h = 17;
        for (int what = 0; what < LATEST_FINDING; what++) {
            h = 31 * h + count(what);
        }
        for (int text = 0; text < TEXTS; text++) {
            h = 31 * h + fault(text);
        }
        for (int it = 0; it < book.tuneCount; it++) {
            h = digestTogether(digestAlone(h, it), it);
        }
        for (int it = 0; it < book.borrowerCount; it++) {
            for (int what = 0; what < 3; what++) {
                h = 31 * h + borrower(it, what);
            }
        }
        for (int it = 0; it < book.loanCount; it++) {
            for (int what = 0; what < 3; what++) {
                h = 31 * h + came(it, what);
            }
        }
        h = 31 * h + interest(0);
        h = 31 * h + interest(9);
        h = 31 * h + interest(39);
        h = 31 * h + home(3);
        h = 31 * h + loses(9);
        return 31 * h + best(1);
    }

    /** What the digest tells of a TUNE by itself and by its TURNS. */
    private long digestAlone(long before, int it) {
        long h = 31 * before + tune(it, NONE);
        h = 31 * h + notes(5, it, NONE);
        h = 31 * h + notes(39, it, NONE);
        h = 31 * h + notes(5, it, 2);
        h = 31 * h + has(5, it);
        h = 31 * h + lend(it, 9, NONE);
        h = 31 * h + lend(it, 9, 0);
        h = 31 * h + longest(it, 3, NONE);
        return 31 * h + longest(it, 3, 0);
    }

    /** What the digest tells of a TUNE beside other TUNES, and by chance. */
    private long digestTogether(long before, int it) {
        long h = 31 * before + who(0, it, 0);
        h = 31 * h + who(0, it, 1);
        h = 31 * h + far(0, it);
        h = 31 * h + nearest(it);
        h = 31 * h + mothers(it);
        h = 31 * h + tells(it, 0);
        h = 31 * h + tells(it, 1);
        h = 31 * h + fair(7, 9, it);
        h = 31 * h + hums(5, it, 0, 4, 9, 0);
        return 31 * h + hums(5, it, 0, 4, 9, 1);
    }

    private static boolean within(int v, int least, int most) {
        return v >= least && v <= most;
    }

    private static boolean isText(int text) {
        return within(text, 0, TEXTS - 1);
    }

    private static boolean isYear(int year) {
        return within(year, 0, YEARS - 1);
    }

    private static boolean isEar(int v) {
        return within(v, 0, MOST_EAR);
    }

    private static boolean isSheet(int s) {
        return within(s, 0, SHEETS - 1);
    }

    private static boolean isForm(int form) {
        return within(form, 0, FORMS - 1);
    }

    private boolean isTune(int tune) {
        return within(tune, 0, book.tuneCount - 1);
    }

    private boolean isBorrower(int borrower) {
        return within(borrower, 0, book.borrowerCount - 1);
    }

    /** Notes a FINDING and answers as it is told. */
    private int found(int number) {
        finding = number;
        return -10 - number;
    }

    /** A text has another end: it is read anew, and the YEARS are lived anew when they are asked for. */
    private int resized(int text, int size) {
        book.texts[text].size = size;
        if (text == TUNE_TEXT) {
            book.readTunes();
        } else {
            book.readBorrowers();
        }
        years.forget();
        return size;
    }

    private int interestBy(int by, int year) {
        years.live(book, by, likeness);
        int now = 0;
        for (int t = 0; t < book.tuneCount; t++) {
            now += years.sizeOf(year, t);
        }
        return now - book.toldNotes();
    }

    /** Whether some of these places differ, for each of the other TUNES. */
    private boolean tellFromAll(int tune, int places) {
        for (int other = 0; other < book.tuneCount; other++) {
            if (other != tune && !tellFrom(book.tunes[tune], book.tunes[other], places)) {
                return false;
            }
        }
        return true;
    }

    private static boolean tellFrom(Tune one, Tune other, int places) {
        for (int p = 0; p < MOST_TOLD_NOTES; p++) {
            if ((places >> p & 1) == 1 && one.at(p) != other.at(p)) {
                return true;
            }
        }
        return false;
    }

    /** 0: the item is there, and of that FORM. */
    private int refusalOfItem(int s, int form, int i) {
        if (!isSheet(s) || !isForm(form)) {
            return BAD;
        }
        Sheet of = sheets[s];
        if (of.isLost()) {
            return found(NULL);
        }
        if (of.form != form) {
            return found(CAST);
        }
        return within(i, 0, of.size - 1) ? 0 : found(INDEX);
    }

    /** The bytes of a text, and its FAULT. */
    private static final class Text {
        final int[] bytes;
        int size;
        int faultAt = NONE;

        Text(int most) {
            bytes = new int[most];
        }

        /** The NOTE at a place; NONE: another byte is there. */
        int noteAt(int p) {
            return within(bytes[p], 'a', 'g') ? bytes[p] - 'a' : NONE;
        }
    }

    /** A row of NOTES. */
    private static final class Tune {
        final int[] notes = new int[MOST_NOTES];
        int size;

        int at(int i) {
            return i >= 0 && i < size ? notes[i] : NONE;
        }

        void add(int note) {
            if (size < MOST_NOTES) {
                notes[size] = note;
                size++;
            }
        }

        void become(Tune other) {
            System.arraycopy(other.notes, 0, notes, 0, other.size);
            size = other.size;
        }

        /** Becomes what another one is when it is HUMMED. */
        void becomeHummed(Tune other, Borrower by) {
            size = 0;
            for (int i = 0; i < other.size; i++) {
                int note = other.notes[i];
                boolean turned = note == by.x;
                if (!turned || by.how == HOW_ADDS) {
                    add(note);
                }
                if (turned && by.how != HOW_TAKES) {
                    add(by.y);
                }
            }
        }

        int bits() {
            int bits = 0;
            for (int i = 0; i < size; i++) {
                bits |= 1 << notes[i];
            }
            return bits;
        }

        boolean isLike(Tune other) {
            if (size != other.size) {
                return false;
            }
            for (int i = 0; i < size; i++) {
                if (notes[i] != other.notes[i]) {
                    return false;
                }
            }
            return true;
        }
    }

    private static final class Borrower {
        int x;
        int how;
        int y;
    }

    /** A LOAN as told, and what the YEARS that were lived last made of it. */
    private static final class Loan {
        int year;
        int tune;
        int borrower;
        int years;
        boolean counts;
        boolean bad;
        int more;
    }

    /** What was told: the texts, what stands in them, and the LOANS. */
    private static final class Book {
        final Text[] texts = new Text[TEXTS];
        final Tune[] tunes = new Tune[MOST_TUNES];
        final Borrower[] borrowers = new Borrower[MOST_BORROWERS];
        final Loan[] loans = new Loan[MOST_LOANS];
        int tuneCount;
        int borrowerCount;
        int loanCount;

        Book() {
            texts[TUNE_TEXT] = new Text(TUNE_BYTES);
            texts[BORROWER_TEXT] = new Text(BORROWER_BYTES);
            for (int t = 0; t < MOST_TUNES; t++) {
                tunes[t] = new Tune();
            }
            for (int b = 0; b < MOST_BORROWERS; b++) {
                borrowers[b] = new Borrower();
            }
            for (int l = 0; l < MOST_LOANS; l++) {
                loans[l] = new Loan();
            }
        }

        void readTunes() {
            Text text = texts[TUNE_TEXT];
            for (int t = 0; t < MOST_TUNES; t++) {
                tunes[t].size = 0;
            }
            int begun = 0;
            int faultAt = NONE;
            for (int p = 0; p < text.size && faultAt == NONE; p++) {
                int in = begun < MOST_TUNES ? tunes[begun].size : 0;
                int note = text.noteAt(p);
                if (note != NONE && begun < MOST_TUNES && in < MOST_TOLD_NOTES) {
                    tunes[begun].add(note);
                } else if (text.bytes[p] == ';' && in > 0) {
                    begun++;
                } else {
                    faultAt = p;
                }
            }
            boolean ended = begun < MOST_TUNES && tunes[begun].size > 0;
            if (faultAt == NONE && text.size > 0 && !ended) {
                faultAt = text.size;
            }
            text.faultAt = faultAt;
            tuneCount = faultAt == NONE && ended ? begun + 1 : 0;
        }

        void readBorrowers() {
            Text text = texts[BORROWER_TEXT];
            int faultAt = NONE;
            for (int p = 0; p < text.size && faultAt == NONE; p++) {
                faultAt = goesOn(text, p) ? NONE : p;
            }
            if (faultAt == NONE && text.size > 0 && text.size % 4 != 3) {
                faultAt = text.size;
            }
            text.faultAt = faultAt;
            borrowerCount = faultAt == NONE ? (text.size + 1) / 4 : 0;
        }

        /** Takes a byte of the BORROWERS, which have four each with the ; behind. */
        private boolean goesOn(Text text, int p) {
            if (p / 4 >= MOST_BORROWERS) {
                return false;
            }
            Borrower told = borrowers[p / 4];
            switch (p % 4) {
                case 0:
                    told.x = text.noteAt(p);
                    return told.x != NONE;
                case 1:
                    told.how = "+-/".indexOf((char) text.bytes[p]);
                    return told.how != NONE;
                case 2:
                    told.y = text.noteAt(p);
                    return told.y != NONE;
                default:
                    return text.bytes[p] == ';';
            }
        }

        int toldNotes() {
            int all = 0;
            for (int t = 0; t < tuneCount; t++) {
                all += tunes[t].size;
            }
            return all;
        }

        int countingLoans() {
            int all = 0;
            for (int l = 0; l < loanCount; l++) {
                all += loans[l].counts ? 1 : 0;
            }
            return all;
        }
    }

    /** COMMON of two tunes. */
    private static final class Likeness {
        private final long[] places = new long[NOTE_KINDS];

        /** A tune has no more NOTES than a long has bits, so a whole row of the usual table is one long:
         *  a bit that is 0 stands where the length grows by one (Hyyro's way). */
        int of(Tune a, Tune b) {
            for (int note = 0; note < NOTE_KINDS; note++) {
                places[note] = 0;
            }
            for (int i = 0; i < a.size; i++) {
                places[a.notes[i]] |= 1L << i;
            }
            long row = -1;
            for (int j = 0; j < b.size; j++) {
                long hit = row & places[b.notes[j]];
                row = (row + hit) | (row - hit);
            }
            return Long.bitCount(~row & ((1L << a.size) - 1));
        }
    }

    /** The YEARS, lived by one EAR at a time; what stands behind each is kept until something else is told. */
    private static final class Years {
        private final Tune[] now = new Tune[MOST_TUNES];
        private final Tune[] lent = new Tune[MOST_TUNES];
        private final int[] loanOf = new int[MOST_TUNES];
        private final Tune spare = new Tune();
        private final int[] keptNotes = new int[YEARS * MOST_TUNES * MOST_NOTES];
        private final int[] keptSizes = new int[YEARS * MOST_TUNES];
        private final int[] keptHolders = new int[YEARS * MOST_TUNES];
        private int livedEar = NONE;

        Years() {
            for (int t = 0; t < MOST_TUNES; t++) {
                now[t] = new Tune();
                lent[t] = new Tune();
            }
        }

        void forget() {
            livedEar = NONE;
        }

        void live(Book book, int ear, Likeness likeness) {
            if (livedEar == ear) {
                return;
            }
            begin(book);
            for (int year = 0; year < YEARS; year++) {
                lendOut(book, year);
                humLent(book);
                comeBack(book, year, ear, likeness);
                keep(book, year);
            }
            livedEar = ear;
        }

        int sizeOf(int year, int tune) {
            return keptSizes[year * MOST_TUNES + tune];
        }

        int noteOf(int year, int tune, int i) {
            int at = year * MOST_TUNES + tune;
            return i >= 0 && i < keptSizes[at] ? keptNotes[at * MOST_NOTES + i] : NONE;
        }

        int holderOf(int year, int tune) {
            return keptHolders[year * MOST_TUNES + tune];
        }

        boolean allAtBank(Book book, int year) {
            for (int t = 0; t < book.tuneCount; t++) {
                if (holderOf(year, t) != NONE) {
                    return false;
                }
            }
            return true;
        }

        private void begin(Book book) {
            for (int t = 0; t < book.tuneCount; t++) {
                now[t].become(book.tunes[t]);
                loanOf[t] = NONE;
            }
            for (int l = 0; l < book.loanCount; l++) {
                Loan loan = book.loans[l];
                loan.counts = false;
                loan.bad = false;
                loan.more = 0;
            }
        }

        private void lendOut(Book book, int year) {
            for (int l = 0; l < book.loanCount; l++) {
                Loan loan = book.loans[l];
                boolean there = loan.tune < book.tuneCount && loan.borrower < book.borrowerCount;
                if (loan.year == year && there && loanOf[loan.tune] == NONE) {
                    loan.counts = true;
                    loanOf[loan.tune] = l;
                    lent[loan.tune].become(now[loan.tune]);
                }
            }
        }

        private void humLent(Book book) {
            for (int t = 0; t < book.tuneCount; t++) {
                if (loanOf[t] != NONE) {
                    spare.becomeHummed(now[t], book.borrowers[book.loans[loanOf[t]].borrower]);
                    now[t].become(spare);
                }
            }
        }

        private void comeBack(Book book, int year, int ear, Likeness likeness) {
            for (int t = 0; t < book.tuneCount; t++) {
                Loan loan = loanOf[t] == NONE ? null : book.loans[loanOf[t]];
                if (loan != null && loan.year + loan.years - 1 == year) {
                    loanOf[t] = NONE;
                    loan.more = now[t].size - lent[t].size;
                    int same = likeness.of(lent[t], now[t]);
                    loan.bad = same < ear && same < lent[t].size;
                    if (loan.bad) {
                        now[t].become(lent[t]);
                    }
                }
            }
        }

        private void keep(Book book, int year) {
            for (int t = 0; t < book.tuneCount; t++) {
                int at = year * MOST_TUNES + t;
                keptSizes[at] = now[t].size;
                keptHolders[at] = loanOf[t] == NONE ? NONE : book.loans[loanOf[t]].borrower;
                System.arraycopy(now[t].notes, 0, keptNotes, at * MOST_NOTES, now[t].size);
            }
        }
    }

    /** TURNS of one TUNE: rows of n BORROWERS, numbered from the least on. */
    private static final class Turns {
        private final Tune[] hummed = new Tune[MOST_TURNS + 1];
        private final int[] row = new int[MOST_TURNS];
        private int known;

        Turns() {
            for (int k = 0; k <= MOST_TURNS; k++) {
                hummed[k] = new Tune();
            }
        }

        void begin(Tune tune) {
            hummed[0].become(tune);
            known = 0;
        }

        int rowsOf(Book book, int n) {
            int rows = 1;
            for (int k = 0; k < n; k++) {
                rows *= book.borrowerCount;
            }
            return rows;
        }

        /** The k-th BORROWER of a row; NONE: the row ends before. */
        int turnOf(Book book, int n, int r, int k) {
            int borrowers = book.borrowerCount;
            int alike = rowsOf(book, n - 1 - k);
            return k < n && borrowers > 0 && alike > 0 ? r / alike % borrowers : NONE;
        }

        /** What the TUNE is behind a row. The row before often begins alike: so far nothing is hummed again. */
        Tune after(Book book, int n, int r) {
            for (int k = 0; k < n; k++) {
                int by = turnOf(book, n, r, k);
                if (by != NONE && (k >= known || row[k] != by)) {
                    row[k] = by;
                    hummed[k + 1].becomeHummed(hummed[k], book.borrowers[by]);
                    known = k + 1;
                }
            }
            return hummed[n];
        }

        /** A row as figures, the first one ahead. */
        int figures(Book book, int n, int r) {
            int all = 0;
            for (int k = 0; k < n; k++) {
                all = all * ROW_BASE + turnOf(book, n, r, k) + 1;
            }
            return all;
        }
    }

    /** Humming by chance: by sixteenths, exactly, or by LOTS of a SEED. */
    private static final class Chance {
        private final Tune now = new Tune();
        private final Tune spare = new Tune();
        private final long[] weights = new long[MOST_LOAN_YEARS + 1];
        private int seed;

        /** Of 16 to so many YEARS equal ways: in how many it is HUMMED k times, for each k. */
        void weigh(int c, int years) {
            for (int k = 0; k <= MOST_LOAN_YEARS; k++) {
                weights[k] = k == 0 ? 1 : 0;
            }
            for (int year = 0; year < years; year++) {
                for (int k = MOST_LOAN_YEARS; k > 0; k--) {
                    weights[k] = weights[k] * (SIXTEENTHS - c) + weights[k - 1] * c;
                }
                weights[0] *= SIXTEENTHS - c;
            }
        }

        /** The weight of all numbers of hummings that leave at least so many NOTES. */
        long weightOf(Tune tune, Borrower by, int years, int notes) {
            now.become(tune);
            long all = 0;
            for (int k = 0; k <= years && k <= MOST_LOAN_YEARS; k++) {
                if (now.size >= notes) {
                    all += weights[k];
                }
                hum(by);
            }
            return all;
        }

        /** Only the TUNE that is asked for is hummed: no other one changes it. */
        int fairSize(Book book, int first, int years, int tune) {
            seed = first;
            now.become(book.tunes[tune]);
            for (int year = 0; year < years && book.borrowerCount > 0; year++) {
                int it = lot(book.tuneCount);
                int by = lot(book.borrowerCount);
                if (it == tune) {
                    hum(book.borrowers[by]);
                }
            }
            return now.size;
        }

        private int lot(int m) {
            seed = 1103515245 * seed + 12345;
            return m > 0 ? (seed >>> 16) % m : 0;
        }

        private void hum(Borrower by) {
            spare.becomeHummed(now, by);
            now.become(spare);
        }
    }

    /** A row of items, each cut to what its FORM holds; it is LOST while it has no FORM. */
    private static final class Sheet {
        final int[] items = new int[MOST_ITEMS];
        int form = NONE;
        int size;

        boolean isLost() {
            return form == NONE;
        }

        void begin(int newForm, int n) {
            form = newForm;
            size = n;
            for (int i = 0; i < MOST_ITEMS; i++) {
                items[i] = 0;
            }
        }

        void put(int i, int v) {
            items[i] = form == BYTE_FORM ? (byte) v : form == SHORT_FORM ? (short) v : v;
        }

        /** Whether n items are there from i on; no sum, that could wrap. */
        boolean hasSpan(int i, int n) {
            return i >= 0 && n >= 0 && i <= size && n <= size - i;
        }
    }
}
