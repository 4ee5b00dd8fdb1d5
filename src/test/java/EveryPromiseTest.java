import java.util.List;

/** Each promise has tests of its own, named by its number, and so has each rule of LANGUAGE.md. */
final class EveryPromiseTest {
    private static final List<Class<?>> ORDINARY = List.of(JarTest.class, MenTest.class, ServiceTest.class,
            EffectTest.class, BookTest.class, ImageTest.class);
    private static final List<Class<?>> EDGES = List.of(EdgeJarTest.class, EdgeMenTest.class, EdgeServiceTest.class,
            EdgeEffectTest.class, EdgeBookTest.class, EdgeRefusalTest.class, EdgeImageTest.class);
    private static final List<Class<?>> RULES = List.of(FaceTest.class, LanguageTest.class);

    public static void main(String[] args) {
        haveTests("ordinary, promise", 'p', 30, 1, ORDINARY);
        haveTests("bounds, promise", 'p', 30, 3, EDGES);
        haveTests("rule", 'r', 13, 1, RULES);
        Due.end("EveryPromiseTest");
    }

    private static void haveTests(String what, char letter, int last, int least, List<Class<?>> classes) {
        int[] tests = new int[last + 1];
        for (Class<?> type : classes) {
            for (String name : Cases.in(type).keySet()) {
                int number = Integer.parseInt(name.substring(1, 3));
                tests[name.charAt(0) == letter && number <= last ? number : 0]++;
            }
        }
        Due.due(what + ": tests of something else", tests[0], 0);
        for (int number = 1; number <= last; number++) {
            Due.due(what + " " + number + " with " + tests[number] + " tests", tests[number] >= least ? 1 : 0, 1);
        }
    }
}
