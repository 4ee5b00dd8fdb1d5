import java.lang.reflect.InvocationTargetException;
import java.lang.reflect.Method;
import java.util.Map;
import java.util.TreeMap;

/**
 * Runs the tests of a class: each method named p and its promise's two digits, "_" and what it asks; where a test asks
 * for a rule of LANGUAGE.md, r and the rule's two digits.
 */
final class Cases {
    private static final String NAME = "(p(0[1-9]|[12][0-9]|30)|r(0[1-9]|1[0-3]))_[a-zA-Z0-9]+";

    private Cases() {
    }

    static Map<String, Method> in(Class<?> tests) {
        Map<String, Method> found = new TreeMap<>();
        for (Method method : tests.getDeclaredMethods()) {
            if (method.getName().matches(NAME)) {
                found.put(method.getName(), method);
            }
        }
        return found;
    }

    static void run(Class<?> tests) throws Exception {
        Map<String, Method> cases = in(tests);
        for (Map.Entry<String, Method> entry : cases.entrySet()) {
            Due.within(entry.getKey());
            entry.getValue().setAccessible(true);
            try {
                entry.getValue().invoke(null);
            } catch (InvocationTargetException thrown) {
                thrown.getCause().printStackTrace();
                Due.due("an exception, so that it", 1, 0);
            }
            Run.allCountsAreDue();
        }
        Due.end(tests.getSimpleName() + ": " + cases.size() + " tests");
    }
}
