import java.util.List;

/** Runs of 512 calls, drawn from fixed seeds: each answer is to be that of PlainBank. */
public final class RandomRunsTest {
    private static final int RUNS = 200;
    private static final int CALLS = 512;

    private final RandomCalls random;
    private final BesidePlain both = new BesidePlain();

    private RandomRunsTest(long seed) {
        random = new RandomCalls(seed);
    }

    /** What ruins a text, and what costs most, is called more seldom. */
    private boolean isLeftOut(String name) {
        switch (name) {
            case "wipe": case "type": case "undo":
                return random.below(6) > 0;
            case "back":
                return random.below(3) > 0;
            case "digest":
                return random.below(10) > 0;
            default:
                return false;
        }
    }

    private boolean wipedAndTyped(int kinds) throws ReflectiveOperationException {
        int text = random.below(2);
        if (!both.same("wipe", text)) return false;
        return both.typed(text, text == 0 ? random.someTunes(kinds) : random.borrowers(kinds, random.below(7)));
    }

    private boolean run() throws ReflectiveOperationException {
        List<String> names = RandomCalls.names();
        int kinds = 1 + random.below(7);
        if (!both.typed(0, random.someTunes(kinds))) return false;
        if (!both.typed(1, random.borrowers(kinds, random.below(7)))) return false;
        int loans = random.below(13);
        for (int l = 0; l < loans; l++) {
            if (!both.same("loan", random.someLoan())) return false;
        }
        while (both.calls() < CALLS) {
            String name = names.get(random.below(names.size()));
            if (isLeftOut(name)) continue;
            boolean well = name.equals("wipe") && both.calls() + 60 <= CALLS ? wipedAndTyped(kinds)
                    : both.same(name, random.arguments(name));
            if (!well) return false;
        }
        return true;
    }

    public static void main(String[] args) throws ReflectiveOperationException {
        int wrong = 0;
        for (int seed = 1; seed <= RUNS && wrong < 3; seed++) {
            if (!new RandomRunsTest(seed).run()) {
                wrong++;
                System.out.println("run " + seed + " went wrong");
            }
        }
        System.out.println(wrong == 0 ? RUNS + " random runs are as the plain bank" : wrong + " runs are not");
        if (wrong != 0) System.exit(1);
    }
}
