import java.lang.reflect.Method;
import java.nio.file.Files;
import java.nio.file.Path;
import java.util.ArrayList;
import java.util.Arrays;
import java.util.Comparator;
import java.util.HashMap;
import java.util.List;
import java.util.Map;

/** Sentence by sentence: for each one that names a boundary a test of its own, with the sentence beside it.
 *  All are run, or those alone whose names, or the names of whose files, are told. */
public final class SentencesTest extends Checks {
    private static final Path DOCUMENT = Path.of("../shared/DOC.md");
    private static final List<Class<?>> TESTS = List.of(SaysOfTexts.class, SaysOfLoans.class, SaysOfYears.class,
        SaysOfTurns.class, SaysOfTunesTogether.class, SaysOfChance.class, SaysOfSheets.class, SaysOfRefusals.class);

    /** The document's sections, each in one line, and which of its signs stand beside a test. */
    private static final Map<Integer, String> SECTIONS = new HashMap<>();
    private static final Map<Integer, boolean[]> BESIDE = new HashMap<>();
    private static int tests;

    /** A section without headings, marks and the lines on where which calls stand: none of them says what is due. */
    private static String plain(String section) {
        return section.replaceAll("(?m)^#.*$|^```.*$|^=+ \\d+ |^Ahead of the calls .*$", " ")
            .replaceAll("(?m)^`.*?`: ", " ").replaceAll("\\s+", " ").strip();
    }

    private static void readDocument() throws Exception {
        String all = Files.readString(DOCUMENT);
        String terms = all.substring(all.indexOf("## Terms"), all.indexOf("## Promise 1:"));
        SECTIONS.put(-1, plain(all.substring(0, all.indexOf("## Terms"))));
        SECTIONS.put(0, plain(terms));
        String[] promises = all.substring(0, all.indexOf("## Not promised")).split("## Promise ");
        for (int p = 1; p < promises.length; p++) {
            String[] parts = promises[p].split(":", 2);
            SECTIONS.put(Integer.parseInt(parts[0]), plain(parts[1].substring(parts[1].indexOf('\n'))));
        }
        for (Map.Entry<Integer, String> section : SECTIONS.entrySet()) {
            BESIDE.put(section.getKey(), new boolean[section.getValue().length()]);
        }
    }

    private static void says(Method test, Says says) {
        String section = SECTIONS.getOrDefault(says.promise(), "");
        int at = section.indexOf(says.value());
        if (at < 0 || section.indexOf(says.value(), at + 1) >= 0) {
            wrong++;
            System.out.println(test + " stands beside what the document does not say just once: " + says.value());
            return;
        }
        Arrays.fill(BESIDE.get(says.promise()), at, at + says.value().length(), true);
    }

    private static boolean isAsked(Method test, List<String> names) {
        return names.isEmpty() || names.contains(test.getName()) || names.contains(test.getDeclaringClass().getName());
    }

    private static void run(Class<?> part, List<String> names) throws Exception {
        List<Method> methods = new ArrayList<>(List.of(part.getDeclaredMethods()));
        methods.sort(Comparator.comparing(Method::getName));
        for (Method test : methods) {
            Says says = test.getAnnotation(Says.class);
            if (says == null || !isAsked(test, names)) continue;
            tests++;
            says(test, says);
            place = part.getName() + "." + test.getName() + " [" + says.promise() + ": " + says.value() + "]";
            int before = checks;
            test.invoke(null);
            if (checks == before) {
                wrong++;
                System.out.println(place + ": nothing was checked");
            }
        }
    }

    /** Tells what of the document stands beside no test. */
    private static void lookForTheRest() {
        for (int p = 0; p <= 36; p++) {
            String section = SECTIONS.getOrDefault(p, "");
            StringBuilder rest = new StringBuilder();
            for (int k = 0; k < section.length(); k++) rest.append(BESIDE.get(p)[k] ? '|' : section.charAt(k));
            for (String part : rest.toString().split("\\|+")) {
                if (!part.matches("\\W*")) {
                    wrong++;
                    System.out.println("promise " + p + ": no test stands beside: " + part.strip());
                }
            }
        }
    }

    public static void main(String[] args) throws Exception {
        readDocument();
        for (Class<?> part : TESTS) run(part, List.of(args));
        if (args.length == 0) lookForTheRest();
        place = "SentencesTest";
        due("some test was run", tests > 0 ? 1 : 0, 1);
        end(tests + " tests of sentences");
    }
}
