import java.math.BigInteger;
import java.util.ArrayList;
import java.util.List;

/** The document once more, in its plainest form and without care for speed: what TuneLoans is compared with. */
public final class PlainBank {
    private static final int NONE = -1, BAD = -2, NOT = -3, FULL = -4;

    private final StringBuilder[] texts = {new StringBuilder(), new StringBuilder()};
    private final String[] split = new String[2];
    private final String[][] words = new String[2][];
    private final List<int[]> loans = new ArrayList<>();
    private final Object[] sheets = new Object[4];
    private int ear = 2;
    private int finding = 0;

    /** What the years come to: the tunes and holders behind each year, and of each loan counts, bad, more. */
    private static final class Lived {
        final String[][] tunes = new String[40][];
        final int[][] holders = new int[40][];
        int[][] came;
    }

    private String[] tunes() {
        return words(0);
    }

    private String[] borrowers() {
        return words(1);
    }

    /** To look for a fault takes long: it is looked for once for a text that stays. */
    private String[] words(int text) {
        String now = texts[text].toString();
        if (!now.equals(split[text])) {
            split[text] = now;
            words[text] = fault(text) != NONE || now.isEmpty() ? new String[0] : now.split(";");
        }
        return words[text].clone();
    }

    private static String hummed(String tune, String by) {
        StringBuilder out = new StringBuilder();
        for (char note : tune.toCharArray()) {
            if (note != by.charAt(0)) {
                out.append(note);
            } else if (by.charAt(1) == '+') {
                out.append(note).append(by.charAt(2));
            } else if (by.charAt(1) == '/') {
                out.append(by.charAt(2));
            }
        }
        return out.length() > 40 ? out.substring(0, 40) : out.toString();
    }

    private static int lcs(String a, String b) {
        int[][] best = new int[a.length() + 1][b.length() + 1];
        for (int i = 1; i <= a.length(); i++) {
            for (int j = 1; j <= b.length(); j++) {
                best[i][j] = a.charAt(i - 1) == b.charAt(j - 1) ? best[i - 1][j - 1] + 1
                        : Math.max(best[i - 1][j], best[i][j - 1]);
            }
        }
        return best[a.length()][b.length()];
    }

    private Lived lived(int byEar) {
        Lived lived = new Lived();
        String[] now = tunes();
        String[] by = borrowers();
        String[] lent = new String[now.length];
        int[] loanOf = new int[now.length];
        java.util.Arrays.fill(loanOf, NONE);
        lived.came = new int[loans.size()][3];
        for (int year = 0; year < 40; year++) {
            for (int l = 0; l < loans.size(); l++) {
                int[] loan = loans.get(l);
                if (loan[0] == year && loan[1] < now.length && loan[2] < by.length && loanOf[loan[1]] == NONE) {
                    lived.came[l][0] = 1;
                    loanOf[loan[1]] = l;
                    lent[loan[1]] = now[loan[1]];
                }
            }
            for (int t = 0; t < now.length; t++) {
                if (loanOf[t] != NONE) {
                    now[t] = hummed(now[t], by[loans.get(loanOf[t])[2]]);
                }
            }
            for (int t = 0; t < now.length; t++) {
                if (loanOf[t] != NONE && year == loans.get(loanOf[t])[0] + loans.get(loanOf[t])[3] - 1) {
                    int[] came = lived.came[loanOf[t]];
                    came[2] = now[t].length() - lent[t].length();
                    int same = lcs(lent[t], now[t]);
                    if (!(same >= byEar || same == lent[t].length())) {
                        came[1] = 1;
                        now[t] = lent[t];
                    }
                    loanOf[t] = NONE;
                }
            }
            lived.tunes[year] = now.clone();
            lived.holders[year] = new int[now.length];
            for (int t = 0; t < now.length; t++) {
                lived.holders[year][t] = loanOf[t] == NONE ? NONE : loans.get(loanOf[t])[2];
            }
        }
        return lived;
    }

    private int interest(int byEar, int year) {
        int all = 0;
        String[] told = tunes();
        String[] then = lived(byEar).tunes[year];
        for (int t = 0; t < told.length; t++) {
            all += then[t].length() - told[t].length();
        }
        return all;
    }

    /** All rows of n borrowers, the least ahead, as lists of their numbers. */
    private static List<List<Integer>> rows(int borrowers, int n) {
        List<List<Integer>> all = new ArrayList<>();
        if (n == 0) {
            all.add(new ArrayList<>());
            return all;
        }
        for (List<Integer> shorter : rows(borrowers, n - 1)) {
            for (int b = 0; b < borrowers; b++) {
                List<Integer> row = new ArrayList<>(shorter);
                row.add(b);
                all.add(row);
            }
        }
        return all;
    }

    private String by(String tune, List<Integer> row) {
        String[] by = borrowers();
        String now = tune;
        for (int b : row) {
            now = hummed(now, by[b]);
        }
        return now;
    }

    private boolean noTune(int t) {
        return t < 0 || t >= tunes().length;
    }

    private static boolean out(int v, int least, int most) {
        return v < least || v > most;
    }

    private int find(int number) {
        finding = number;
        return -10 - number;
    }

    public int type(int text, int b) {
        if (out(text, 0, 1) || out(b, 0, 255)) return BAD;
        if (texts[text].length() == (text == 0 ? 59 : 23)) return FULL;
        return texts[text].append((char) b).length();
    }

    public int wipe(int text) {
        if (out(text, 0, 1)) return BAD;
        int had = texts[text].length();
        texts[text].setLength(0);
        return had;
    }

    public int undo(int text) {
        if (out(text, 0, 1)) return BAD;
        if (texts[text].length() == 0) return NOT;
        texts[text].setLength(texts[text].length() - 1);
        return texts[text].length();
    }

    /** The longest part that some text without a fault begins with; with the end, if that part is no text itself. */
    public int fault(int text) {
        if (out(text, 0, 1)) return BAD;
        String s = texts[text].toString();
        String one = text == 0 ? "[a-g]{1,12}" : "[a-g][-+/][a-g]";
        String begun = text == 0 ? "[a-g]{0,12}" : "([a-g]([-+/][a-g]?)?)?";
        if (s.isEmpty() || s.matches(one + "(;" + one + "){0,5}")) return NONE;
        for (int n = s.length(); n >= 0; n--) {
            String part = s.substring(0, n);
            if (part.matches(begun) || part.matches("(" + one + ";){1,5}" + begun)
                    || part.matches("(" + one + ";){6}")) return n;
        }
        return NONE;
    }

    public int tune(int tune, int i) {
        if (noTune(tune) || out(i, -1, 11)) return BAD;
        String told = tunes()[tune];
        return i == NONE ? told.length() : i < told.length() ? told.charAt(i) - 'a' : NONE;
    }

    public int borrower(int borrower, int what) {
        if (out(borrower, 0, borrowers().length - 1) || out(what, 0, 2)) return BAD;
        char sign = borrowers()[borrower].charAt(what);
        return what == 1 ? (sign == '+' ? 0 : sign == '-' ? 1 : 2) : sign - 'a';
    }

    public int loan(int year, int tune, int borrower, int years) {
        if (out(year, 0, 39) || out(tune, 0, 5) || out(borrower, 0, 5) || out(years, 1, 9)) return BAD;
        if (loans.size() == 12) return FULL;
        loans.add(new int[] {year, tune, borrower, years});
        return loans.size();
    }

    public int back() {
        if (loans.isEmpty()) return NOT;
        loans.remove(loans.size() - 1);
        return loans.size();
    }

    public int read(int s) {
        if (out(s, 0, 3)) return BAD;
        if (sheets[s] == null) return find(1);
        int many = 0;
        for (int i = 0; i + 3 < length(s); i += 4) {
            if (loan(item(s, i), item(s, i + 1), item(s, i + 2), item(s, i + 3)) < 0) break;
            many++;
        }
        return many;
    }

    public int ear(int v) {
        if (out(v, 0, 12)) return BAD;
        int was = ear;
        ear = v;
        return was;
    }

    public int notes(int year, int tune, int i) {
        if (out(year, 0, 39) || noTune(tune) || out(i, -1, 39)) return BAD;
        String then = lived(ear).tunes[year][tune];
        return i == NONE ? then.length() : i < then.length() ? then.charAt(i) - 'a' : NONE;
    }

    public int has(int year, int tune) {
        return out(year, 0, 39) || noTune(tune) ? BAD : lived(ear).holders[year][tune];
    }

    public int came(int loan, int what) {
        return out(loan, 0, loans.size() - 1) || out(what, 0, 2) ? -1002 : lived(ear).came[loan][what];
    }

    public int interest(int year) {
        return out(year, 0, 39) ? -1002 : interest(ear, year);
    }

    public int home(int year) {
        if (out(year, 0, 39)) return BAD;
        Lived lived = lived(ear);
        for (int y = year; y < 40; y++) {
            boolean all = true;
            for (int holder : lived.holders[y]) all &= holder == NONE;
            if (all) return y;
        }
        return NONE;
    }

    public int lend(int tune, int notes, int i) {
        if (noTune(tune) || out(notes, 0, 127) || out(i, -1, 2)) return BAD;
        for (int n = 0; n <= 3; n++) {
            for (List<Integer> row : rows(borrowers().length, n)) {
                String then = by(tunes()[tune], row);
                boolean all = true;
                for (int k = 0; k < 7; k++) all &= (notes >> k) % 2 == 0 || then.indexOf('a' + k) >= 0;
                if (all) return i == NONE ? n : i < n ? row.get(i) : NONE;
            }
        }
        return NONE;
    }

    public int longest(int tune, int n, int i) {
        if (noTune(tune) || out(n, 1, 3) || out(i, -1, n - 1)) return BAD;
        int most = NONE;
        int ith = NONE;
        for (List<Integer> row : rows(borrowers().length, n)) {
            String then = by(tunes()[tune], row);
            if (then.length() > most) {
                most = then.length();
                ith = i == NONE ? most : row.get(i);
            }
        }
        return ith;
    }

    public int who(int tune, int other, int what) {
        if (noTune(tune) || noTune(other) || out(what, 0, 1)) return BAD;
        int many = 0;
        int first = NONE;
        for (int n = 0; n <= 3; n++) {
            for (List<Integer> row : rows(borrowers().length, n)) {
                if (by(tunes()[tune], row).equals(tunes()[other])) {
                    if (many == 0) {
                        first = 0;
                        for (int b : row) first = first * 7 + b + 1;
                    }
                    many++;
                }
            }
        }
        return what == 0 ? many : first;
    }

    public int common(int a, int b) {
        return noTune(a) || noTune(b) ? BAD : lcs(tunes()[a], tunes()[b]);
    }

    public int far(int a, int b) {
        return noTune(a) || noTune(b) ? BAD : tunes()[a].length() + tunes()[b].length() - 2 * common(a, b);
    }

    public int nearest(int tune) {
        if (noTune(tune)) return BAD;
        for (int apart = 0; apart <= 24; apart++) {
            for (int t = 0; t < tunes().length; t++) {
                if (t != tune && far(tune, t) == apart) return t;
            }
        }
        return NONE;
    }

    public int mothers(int tune) {
        if (noTune(tune)) return BAD;
        int bits = 0;
        for (int t = 0; t < tunes().length; t++) {
            int at = 0;
            for (char note : tunes()[tune].toCharArray()) {
                if (at < tunes()[t].length() && tunes()[t].charAt(at) == note) at++;
            }
            if (t != tune && at == tunes()[t].length()) bits += 1 << t;
        }
        return bits;
    }

    public int tells(int tune, int what) {
        if (noTune(tune) || out(what, 0, 1)) return BAD;
        for (int n = 0; n <= 12; n++) {
            for (int bits = 0; bits < 4096; bits++) {
                if (Integer.bitCount(bits) == n && tell(tune, bits)) return what == 0 ? n : bits;
            }
        }
        return NONE;
    }

    private boolean tell(int tune, int bits) {
        for (int t = 0; t < tunes().length; t++) {
            boolean other = t == tune;
            for (int p = 0; p < 12; p++) {
                String pad = "............";
                other |= (bits >> p) % 2 == 1 && (tunes()[tune] + pad).charAt(p) != (tunes()[t] + pad).charAt(p);
            }
            if (!other) return false;
        }
        return true;
    }

    public int loses(int v) {
        return out(v, 0, 12) ? -1002 : interest(0, 39) - interest(v, 39);
    }

    public int best(int interest) {
        if (out(interest, 0, 240)) return BAD;
        int best = NONE;
        for (int v = 0; v <= 12; v++) {
            if (interest(v, 39) >= interest) best = v;
        }
        return best;
    }

    /** Every one of the ways in which the years go, by itself. */
    public long hums(int c, int tune, int borrower, int years, int notes, int what) {
        if (out(c, 0, 16) || noTune(tune) || out(borrower, 0, borrowers().length - 1) || out(years, 1, 9)
                || out(notes, 1, 40) || out(what, 0, 1)) return Long.MIN_VALUE + 2;
        BigInteger above = BigInteger.ZERO;
        for (int way = 0; way < 1 << years; way++) {
            String now = tunes()[tune];
            BigInteger chance = BigInteger.ONE;
            for (int year = 0; year < years; year++) {
                boolean hum = (way >> year) % 2 == 1;
                if (hum) now = hummed(now, borrowers()[borrower]);
                chance = chance.multiply(BigInteger.valueOf(hum ? c : 16 - c));
            }
            if (now.length() >= notes) above = above.add(chance);
        }
        BigInteger below = BigInteger.valueOf(16).pow(years);
        return (what == 0 ? above : below).divide(above.gcd(below)).longValueExact();
    }

    public int fair(int seed, int years, int tune) {
        if (out(years, 1, 40) || noTune(tune)) return BAD;
        String[] now = tunes();
        String[] by = borrowers();
        int lot = seed;
        for (int year = 0; year < years && by.length > 0; year++) {
            lot = 1103515245 * lot + 12345;
            int t = (lot >>> 16) % now.length;
            lot = 1103515245 * lot + 12345;
            now[t] = hummed(now[t], by[(lot >>> 16) % by.length]);
        }
        return now[tune].length();
    }

    private int length(int s) {
        return java.lang.reflect.Array.getLength(sheets[s]);
    }

    private int form(int s) {
        return sheets[s] instanceof byte[] ? 0 : sheets[s] instanceof short[] ? 1 : 2;
    }

    private int item(int s, int i) {
        return java.lang.reflect.Array.getInt(sheets[s], i);
    }

    private void put(int s, int i, int v) {
        if (sheets[s] instanceof byte[] bytes) bytes[i] = (byte) v;
        if (sheets[s] instanceof short[] shorts) shorts[i] = (short) v;
        if (sheets[s] instanceof int[] ints) ints[i] = v;
    }

    public int sheet(int s, int form, int n) {
        if (out(s, 0, 3) || out(form, 0, 2) || n > 60) return BAD;
        if (n < 0) return find(5);
        sheets[s] = form == 0 ? new byte[n] : form == 1 ? new short[n] : new int[n];
        return n;
    }

    public int lose(int s) {
        if (out(s, 0, 3)) return BAD;
        if (sheets[s] == null) return find(1);
        int had = length(s);
        sheets[s] = null;
        return had;
    }

    private int refusal(int s, int form, int i) {
        if (out(s, 0, 3) || out(form, 0, 2)) return BAD;
        if (sheets[s] == null) return find(1);
        if (form(s) != form) return find(3);
        return out(i, 0, length(s) - 1) ? find(2) : 0;
    }

    public int lay(int s, int form, int i, int v) {
        int refusal = refusal(s, form, i);
        if (refusal != 0) return refusal;
        put(s, i, v);
        return 1;
    }

    public int get(int s, int form, int i) {
        return refusal(s, form, i) != 0 ? Integer.MIN_VALUE : item(s, i);
    }

    /** The machine itself tells here what fits and what does not. */
    public int copy(int s, int i, int t, int j, int n) {
        if (out(s, 0, 3) || out(t, 0, 3)) return BAD;
        try {
            System.arraycopy(sheets[s], i, sheets[t], j, n);
            return 1;
        } catch (NullPointerException e) {
            return find(1);
        } catch (ArrayStoreException e) {
            return find(4);
        } catch (IndexOutOfBoundsException e) {
            return find(2);
        }
    }

    public int write(int year, int tune, int s) {
        if (out(year, 0, 39) || noTune(tune) || out(s, 0, 3)) return BAD;
        if (sheets[s] == null) return find(1);
        String then = lived(ear).tunes[year][tune];
        int many = 0;
        while (many < then.length() && many < length(s)) {
            put(s, many, then.charAt(many) - 'a');
            many++;
        }
        return many;
    }

    public int count(int what) {
        int counting = 0;
        for (int[] came : lived(ear).came) counting += came[0];
        int notes = String.join("", tunes()).length();
        int[] all = {tunes().length, borrowers().length, texts[0].length(), texts[1].length(), loans.size(),
            counting, ear, notes, finding};
        return out(what, 0, 8) ? BAD : all[what];
    }

    public long digest() {
        List<Long> all = new ArrayList<>();
        for (int k = 0; k <= 7; k++) all.add((long) count(k));
        for (int k = 0; k <= 1; k++) all.add((long) fault(k));
        for (int it = 0; it < tunes().length; it++) {
            int[] ints = {tune(it, NONE), notes(5, it, NONE), notes(39, it, NONE), notes(5, it, 2), has(5, it),
                lend(it, 9, NONE), lend(it, 9, 0), longest(it, 3, NONE), longest(it, 3, 0), who(0, it, 0),
                who(0, it, 1), far(0, it), nearest(it), mothers(it), tells(it, 0), tells(it, 1), fair(7, 9, it)};
            for (int v : ints) all.add((long) v);
            for (int k = 0; k <= 1; k++) all.add(hums(5, it, 0, 4, 9, k));
        }
        for (int it = 0; it < borrowers().length; it++) {
            for (int k = 0; k <= 2; k++) all.add((long) borrower(it, k));
        }
        for (int it = 0; it < loans.size(); it++) {
            for (int k = 0; k <= 2; k++) all.add((long) came(it, k));
        }
        int[] last = {interest(0), interest(9), interest(39), home(3), loses(9), best(1)};
        for (int v : last) all.add((long) v);
        long h = 17;
        for (long v : all) h = 31 * h + v;
        return h;
    }
}
