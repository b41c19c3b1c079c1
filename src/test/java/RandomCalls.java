import java.util.ArrayList;
import java.util.Arrays;
import java.util.List;
import java.util.Map;
import java.util.Random;
import java.util.TreeMap;

/** What random runs are drawn from, by a fixed seed: numbers for each call, and texts. */
final class RandomCalls {
    /** Numbers that no parameter but a value takes. */
    private static final int[] FAR_OUT = {Integer.MIN_VALUE, Integer.MIN_VALUE + 1, -1000, 1000, 65536,
        Integer.MAX_VALUE - 1, Integer.MAX_VALUE};

    /** For each call the least and the most of each parameter. */
    private static final Map<String, int[]> RANGES = new TreeMap<>();

    static {
        range("type", 0, 1, 0, 255);
        range("wipe", 0, 1);
        range("undo", 0, 1);
        range("fault", 0, 1);
        range("tune", 0, 5, -1, 11);
        range("borrower", 0, 5, 0, 2);
        range("loan", 0, 39, 0, 5, 0, 5, 1, 9);
        range("back");
        range("read", 0, 3);
        range("ear", 0, 12);
        range("notes", 0, 39, 0, 5, -1, 39);
        range("has", 0, 39, 0, 5);
        range("came", 0, 11, 0, 2);
        range("interest", 0, 39);
        range("home", 0, 39);
        range("lend", 0, 5, 0, 127, -1, 2);
        range("longest", 0, 5, 1, 3, -1, 2);
        range("who", 0, 5, 0, 5, 0, 1);
        range("common", 0, 5, 0, 5);
        range("far", 0, 5, 0, 5);
        range("nearest", 0, 5);
        range("mothers", 0, 5);
        range("tells", 0, 5, 0, 1);
        range("loses", 0, 12);
        range("best", 0, 240);
        range("hums", 0, 16, 0, 5, 0, 5, 1, 9, 1, 40, 0, 1);
        range("fair", Integer.MIN_VALUE, Integer.MAX_VALUE, 1, 40, 0, 5);
        range("sheet", 0, 3, 0, 2, 0, 60);
        range("lose", 0, 3);
        range("lay", 0, 3, 0, 2, 0, 59, Integer.MIN_VALUE, Integer.MAX_VALUE);
        range("get", 0, 3, 0, 2, 0, 59);
        range("copy", 0, 3, 0, 60, 0, 3, 0, 60, 0, 60);
        range("write", 0, 39, 0, 5, 0, 3);
        range("count", 0, 8);
        range("digest");
    }

    private final Random random;

    RandomCalls(long seed) {
        random = new Random(seed);
    }

    private static void range(String name, int... ends) {
        RANGES.put(name, ends);
    }

    static List<String> names() {
        return new ArrayList<>(RANGES.keySet());
    }

    int below(int many) {
        return random.nextInt(many);
    }

    int between(int least, int most) {
        return (int) (least + (long) (random.nextDouble() * ((long) most - least + 1)));
    }

    /** Mostly what may be, small numbers more often; now and then just outside, or far out. */
    private int argument(int least, int most) {
        int kind = below(40);
        if (kind == 0) return random.nextBoolean() ? least - 1 : most + 1;
        if (kind == 1) return FAR_OUT[below(FAR_OUT.length)];
        return kind < 15 ? between(least, (int) Math.min(most, (long) least + 3)) : between(least, most);
    }

    int[] arguments(String name) {
        int[] ends = RANGES.get(name);
        int[] args = new int[ends.length / 2];
        for (int k = 0; k < args.length; k++) args[k] = argument(ends[2 * k], ends[2 * k + 1]);
        if (name.equals("type") && below(8) > 0) args[1] = likelyByte();
        return args;
    }

    /** Four numbers that a loan may be told with. */
    int[] someLoan() {
        return new int[] {between(0, 39), between(0, 5), between(0, 5), between(1, 9)};
    }

    /** Few kinds of notes, so that tunes become one another. */
    private String notes(int kinds, int many) {
        StringBuilder all = new StringBuilder();
        for (int k = 0; k < many; k++) all.append((char) ('a' + below(kinds)));
        return all.toString();
    }

    String someTunes(int kinds) {
        List<String> all = new ArrayList<>();
        int many = 1 + below(6);
        int most = 1 + below(12);
        for (int t = 0; t < many; t++) all.add(notes(kinds, 1 + below(most)));
        return String.join(";", all);
    }

    /** Five or six tunes that fill all 59 bytes. */
    String fullTunes(int kinds) {
        int many = 5 + below(2);
        int[] sizes = new int[many];
        Arrays.fill(sizes, 1);
        for (int left = 59 - (2 * many - 1); left > 0;) {
            int t = below(many);
            if (sizes[t] < 12) {
                sizes[t]++;
                left--;
            }
        }
        List<String> all = new ArrayList<>();
        for (int size : sizes) all.add(notes(kinds, size));
        return String.join(";", all);
    }

    String borrowers(int kinds, int many) {
        List<String> all = new ArrayList<>();
        for (int b = 0; b < many; b++) all.add(notes(kinds, 1) + "++++--//".charAt(below(8)) + notes(kinds, 1));
        return String.join(";", all);
    }

    /** Bytes that mostly go on where they stand. */
    int likelyByte() {
        return below(4) == 0 ? between(0, 255) : ";abcdefg+-/;".charAt(below(12));
    }
}
