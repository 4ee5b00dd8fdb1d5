import java.lang.reflect.Constructor;
import java.lang.reflect.Field;
import java.lang.reflect.Member;
import java.lang.reflect.Method;
import java.lang.reflect.Modifier;
import java.nio.file.Files;
import java.nio.file.Path;
import java.util.HashSet;
import java.util.Set;
import java.util.TreeSet;

/** The public face, and the rules of ../shared/LANGUAGE.md that can be seen from names and signs. */
final class FaceTest {
    private static final Set<String> FACE = Set.of(
            "int feed(int, long)", "int man()", "int jar(int, int, int, int, int)", "int pour(int, boolean)",
            "int number(int, int)", "int dayOf(int, int)", "long mean(int, int, int)", "long lean(int)",
            "int worst(int)", "int turned(int)", "int manOf(int, int)", "int cut(int)", "int law(int, int)",
            "int called(int, int)", "int served(int, int)", "long wage(int, int, int)",
            "long does(int, int, int)", "long share(int, int)", "long serving(int, int, int)",
            "long truly(int, int, int)", "int faded(int, int)", "long group(int, int, int, int)",
            "int least(int)", "int shown()", "int moved()", "int cuts(int, int)", "int image()", "int on()",
            "int count(int)");
    private static final String[] FORBIDDEN = {
        "throw", "try", "catch", "synchronized", "assert", "->", "::", "System.out", "hashCode", "toString",
        "Random", "nanoTime", "currentTimeMillis", "Exact("};

    public static void main(String[] args) throws Exception {
        Due.due("final and public", GlassJar.class.getModifiers(), Modifier.PUBLIC | Modifier.FINAL);
        methods();
        for (Field field : GlassJar.class.getDeclaredFields()) {
            isPrivate(field);
        }
        Constructor<?>[] constructors = GlassJar.class.getDeclaredConstructors();
        Due.due("constructors", constructors.length, 1);
        Due.due("its parameters", constructors[0].getParameterCount(), 0);
        Due.due("public constructor", constructors[0].getModifiers(), Modifier.PUBLIC);
        sizes(GlassJar.class);
        Class<?>[] insides = GlassJar.class.getDeclaredClasses();
        Due.due("classes, some twelve at most: " + insides.length, insides.length < 12 ? 1 : 0, 1);
        for (Class<?> inside : insides) {
            Due.due("static " + inside.getName(), Modifier.isStatic(inside.getModifiers()) ? 1 : 0, 1);
            Due.due("not public " + inside.getName(), Modifier.isPublic(inside.getModifiers()) ? 1 : 0, 0);
            sizes(inside);
        }
        signs();
        Due.end("FaceTest");
    }

    private static void methods() {
        Set<String> face = new TreeSet<>();
        Set<String> publicNames = new HashSet<>();
        for (Method method : GlassJar.class.getDeclaredMethods()) {
            if (Modifier.isPublic(method.getModifiers())) {
                String text = method.toString();
                text = text.substring("public ".length()).replace("GlassJar.", "").replace(",", ", ");
                face.add(text);
                publicNames.add(method.getName());
            }
        }
        Due.due("the face " + face, face.equals(FACE) ? 1 : 0, 1);
        for (Method method : GlassJar.class.getDeclaredMethods()) {
            if (!Modifier.isPublic(method.getModifiers())) {
                isPrivate(method);
                hasItsOwnName(method, publicNames);
            }
        }
        for (Class<?> inside : GlassJar.class.getDeclaredClasses()) {
            for (Method method : inside.getDeclaredMethods()) {
                hasItsOwnName(method, publicNames);
            }
        }
    }

    private static void hasItsOwnName(Method method, Set<String> publicNames) {
        Due.due("a name of its own: " + method, publicNames.contains(method.getName()) ? 1 : 0, 0);
    }

    /** Fields of an object, parameters of a method, static fields that could change. */
    private static void sizes(Class<?> type) {
        int fields = 0;
        for (Field field : type.getDeclaredFields()) {
            boolean isStatic = Modifier.isStatic(field.getModifiers());
            fields += isStatic ? 0 : 1;
            Due.due("final " + field, !isStatic || Modifier.isFinal(field.getModifiers()) ? 1 : 0, 1);
        }
        Due.due("some twenty fields: " + type, fields <= 20 ? 1 : 0, 1);
        for (Method method : type.getDeclaredMethods()) {
            Due.due("seven parameters: " + method, method.getParameterCount() <= 7 ? 1 : 0, 1);
        }
    }

    private static void isPrivate(Member member) {
        Due.due("private " + member, Modifier.isPrivate(member.getModifiers()) ? 1 : 0, 1);
    }

    private static void signs() throws Exception {
        String source = Files.readString(Path.of("src/main/java/GlassJar.java"));
        for (String forbidden : FORBIDDEN) {
            Due.due("without " + forbidden, source.contains(forbidden) ? 1 : 0, 0);
        }
        for (int i = 0; i < source.length(); i++) {
            if (source.charAt(i) > 126) {
                Due.due("sign " + i, source.charAt(i), 126);
            }
        }
    }
}
