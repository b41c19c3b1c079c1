import java.lang.reflect.Method;
import java.lang.reflect.Modifier;
import java.util.ArrayList;
import java.util.Arrays;
import java.util.HashMap;
import java.util.List;
import java.util.Map;

/** A bank with the plain one beside it: both are told the same, and each answer is to be the plain one's. */
final class BesidePlain {
    private static final Map<String, Method> CALLS = publicCallsOf(TuneLoans.class);
    private static final Map<String, Method> PLAIN_CALLS = publicCallsOf(PlainBank.class);

    private final TuneLoans bank = new TuneLoans();
    private final PlainBank plain = new PlainBank();
    private final List<String> told = new ArrayList<>();
    private long answer;

    private static Map<String, Method> publicCallsOf(Class<?> of) {
        Map<String, Method> all = new HashMap<>();
        for (Method m : of.getDeclaredMethods()) {
            if (Modifier.isPublic(m.getModifiers())) all.put(m.getName(), m);
        }
        return all;
    }

    /** How many calls there were. */
    int calls() {
        return told.size();
    }

    /** What the latest call answered. */
    long answer() {
        return answer;
    }

    /** One call of both; all calls are printed if it is not as due. */
    boolean same(String name, int... numbers) throws ReflectiveOperationException {
        Object[] args = Arrays.stream(numbers).boxed().toArray();
        answer = ((Number) CALLS.get(name).invoke(bank, args)).longValue();
        long due = ((Number) PLAIN_CALLS.get(name).invoke(plain, args)).longValue();
        told.add(name + Arrays.toString(args) + " = " + answer);
        if (answer == due) return true;
        System.out.println("due is " + due + " at the last of these:");
        for (String call : told) System.out.println("    " + call);
        return false;
    }

    boolean typed(int text, String bytes) throws ReflectiveOperationException {
        boolean well = true;
        for (int k = 0; k < bytes.length() && well; k++) well = same("type", text, bytes.charAt(k));
        return well;
    }
}
