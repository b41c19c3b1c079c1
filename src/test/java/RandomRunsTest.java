import java.lang.reflect.Method;
import java.lang.reflect.Modifier;
import java.util.ArrayList;
import java.util.Arrays;
import java.util.Comparator;
import java.util.HashMap;
import java.util.List;
import java.util.Map;
import java.util.Random;

/** Runs of up to 512 calls, drawn from fixed seeds: each answer is to be that of PlainBank. */
public final class RandomRunsTest {
    private static final int RUNS = 200;
    private static final int CALLS = 512;
    /** Numbers that no parameter but a value takes. */
    private static final int[] FAR_OUT = {Integer.MIN_VALUE, Integer.MIN_VALUE + 1, -1000, 1000, 65536,
        Integer.MAX_VALUE - 1, Integer.MAX_VALUE};

    /** For each call the least and the most of each parameter. */
    private static final Map<String, int[]> RANGES = new HashMap<>();

    static {
        range("type", 0, 1, 0, 255);
        range("wipe", 0, 1);
        range("undo", 0, 1);
        range("fault", 0, 1);
        range("tune", 0, 5, -1, 11);
        range("borrower", 0, 5, 0, 2);
        range("loan", 0, 39, 0, 5, 0, 5, 1, 9);
        range("back");
        range("read", 0, 3);
        range("ear", 0, 12);
        range("notes", 0, 39, 0, 5, -1, 39);
        range("has", 0, 39, 0, 5);
        range("came", 0, 11, 0, 2);
        range("interest", 0, 39);
        range("home", 0, 39);
        range("lend", 0, 5, 0, 127, -1, 2);
        range("longest", 0, 5, 1, 3, -1, 2);
        range("who", 0, 5, 0, 5, 0, 1);
        range("common", 0, 5, 0, 5);
        range("far", 0, 5, 0, 5);
        range("nearest", 0, 5);
        range("mothers", 0, 5);
        range("tells", 0, 5, 0, 1);
        range("loses", 0, 12);
        range("best", 0, 240);
        range("hums", 0, 16, 0, 5, 0, 5, 1, 9, 1, 40, 0, 1);
        range("fair", Integer.MIN_VALUE, Integer.MAX_VALUE, 1, 40, 0, 5);
        range("sheet", 0, 3, 0, 2, 0, 60);
        range("lose", 0, 3);
        range("lay", 0, 3, 0, 2, 0, 59, Integer.MIN_VALUE, Integer.MAX_VALUE);
        range("get", 0, 3, 0, 2, 0, 59);
        range("copy", 0, 3, 0, 60, 0, 3, 0, 60, 0, 60);
        range("write", 0, 39, 0, 5, 0, 3);
        range("count", 0, 8);
        range("digest");
    }

    private final Random random;
    private final TuneLoans bank = new TuneLoans();
    private final PlainBank plain = new PlainBank();
    private final List<String> told = new ArrayList<>();

    private RandomRunsTest(long seed) {
        random = new Random(seed);
    }

    private static void range(String name, int... ends) {
        RANGES.put(name, ends);
    }

    private static List<Method> calls() {
        List<Method> all = new ArrayList<>();
        for (Method m : TuneLoans.class.getDeclaredMethods()) {
            if (Modifier.isPublic(m.getModifiers())) all.add(m);
        }
        all.sort(Comparator.comparing(Method::getName));
        return all;
    }

    private int between(int least, int most) {
        return (int) (least + (long) (random.nextDouble() * ((long) most - least + 1)));
    }

    /** Mostly what may be, small numbers more often; now and then just outside, or far out. */
    private int argument(int least, int most) {
        int kind = random.nextInt(40);
        if (kind == 0) return random.nextBoolean() ? least - 1 : most + 1;
        if (kind == 1) return FAR_OUT[random.nextInt(FAR_OUT.length)];
        return kind < 15 ? between(least, (int) Math.min(most, (long) least + 3)) : between(least, most);
    }

    private boolean same(Method m, Object... args) throws Exception {
        long got = ((Number) m.invoke(bank, args)).longValue();
        Method other = PlainBank.class.getMethod(m.getName(), m.getParameterTypes());
        long due = ((Number) other.invoke(plain, args)).longValue();
        told.add(m.getName() + Arrays.toString(args) + " = " + got);
        if (got == due) return true;
        System.out.println("due is " + due + " at the last of these:");
        for (String call : told) System.out.println("    " + call);
        return false;
    }

    private boolean typed(int text, String bytes) throws Exception {
        Method type = TuneLoans.class.getMethod("type", int.class, int.class);
        boolean well = true;
        for (int k = 0; k < bytes.length() && well; k++) well = same(type, text, (int) bytes.charAt(k));
        return well;
    }

    /** Few kinds of notes, so that tunes become one another. */
    private String note(int kinds) {
        return String.valueOf((char) ('a' + random.nextInt(kinds)));
    }

    private String someTunes(int kinds) {
        StringBuilder all = new StringBuilder();
        int many = 1 + random.nextInt(6);
        int most = 1 + random.nextInt(12);
        for (int t = 0; t < many; t++) {
            if (t > 0) all.append(';');
            int size = 1 + random.nextInt(most);
            for (int k = 0; k < size; k++) all.append(note(kinds));
        }
        return all.toString();
    }

    private String someBorrowers(int kinds) {
        StringBuilder all = new StringBuilder();
        int many = random.nextInt(7);
        for (int b = 0; b < many; b++) {
            if (b > 0) all.append(';');
            all.append(note(kinds)).append("++++--//".charAt(random.nextInt(8))).append(note(kinds));
        }
        return all.toString();
    }

    /** Bytes that mostly go on where they stand. */
    private int likelyByte() {
        return random.nextInt(4) == 0 ? between(0, 255) : ";abcdefg+-/;".charAt(random.nextInt(12));
    }

    private boolean run() throws Exception {
        List<Method> calls = calls();
        int kinds = 1 + random.nextInt(7);
        if (!typed(0, someTunes(kinds)) || !typed(1, someBorrowers(kinds))) return false;
        Method loan = TuneLoans.class.getMethod("loan", int.class, int.class, int.class, int.class);
        int loans = random.nextInt(13);
        for (int l = 0; l < loans; l++) {
            if (!same(loan, between(0, 39), between(0, 5), between(0, 5), between(1, 9))) return false;
        }
        while (told.size() < CALLS) {
            Method m = calls.get(random.nextInt(calls.size()));
            boolean ruins = m.getName().equals("wipe") || m.getName().equals("type") || m.getName().equals("undo");
            if (ruins && random.nextInt(6) > 0 || m.getName().equals("back") && random.nextInt(3) > 0) continue;
            if (m.getName().equals("digest") && random.nextInt(10) > 0) continue;
            if (m.getName().equals("wipe")) {
                int text = random.nextInt(2);
                if (!same(m, text) || !typed(text, text == 0 ? someTunes(kinds) : someBorrowers(kinds))) return false;
                continue;
            }
            int[] ends = RANGES.get(m.getName());
            Object[] args = new Object[m.getParameterCount()];
            for (int k = 0; k < args.length; k++) args[k] = argument(ends[2 * k], ends[2 * k + 1]);
            if (m.getName().equals("type") && random.nextInt(8) > 0) args[1] = likelyByte();
            if (!same(m, args)) return false;
        }
        return true;
    }

    public static void main(String[] args) throws Exception {
        int wrong = 0;
        for (int seed = 1; seed <= RUNS && wrong < 3; seed++) {
            if (!new RandomRunsTest(seed).run()) {
                wrong++;
                System.out.println("run " + seed + " went wrong");
            }
        }
        System.out.println(wrong == 0 ? RUNS + " random runs are as the plain bank" : wrong + " runs are not");
        if (wrong != 0) System.exit(1);
    }
}
