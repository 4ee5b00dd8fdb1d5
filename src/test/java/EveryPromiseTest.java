import java.util.List;

/** Each promise has tests of its bounds, named by its number. */
final class EveryPromiseTest {
    private static final List<Class<?>> EDGES = List.of(EdgeJarTest.class, EdgeMenTest.class, EdgeServiceTest.class,
            EdgeEffectTest.class, EdgeBookTest.class, EdgeRefusalTest.class, EdgeImageTest.class);

    public static void main(String[] args) {
        int[] tests = new int[31];
        for (Class<?> edge : EDGES) {
            for (String name : Cases.in(edge).keySet()) {
                tests[Integer.parseInt(name.substring(1, 3))]++;
            }
        }
        for (int promise = 1; promise <= 30; promise++) {
            Due.due("promise " + promise + " with " + tests[promise] + " tests", tests[promise] > 2 ? 1 : 0, 1);
        }
        Due.end("EveryPromiseTest");
    }
}
