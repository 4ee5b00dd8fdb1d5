import java.lang.reflect.Array;
import java.lang.reflect.Constructor;
import java.lang.reflect.Field;
import java.lang.reflect.Member;
import java.lang.reflect.Method;
import java.lang.reflect.Modifier;
import java.nio.file.Files;
import java.nio.file.Path;
import java.util.ArrayDeque;
import java.util.Arrays;
import java.util.Deque;
import java.util.HashSet;
import java.util.IdentityHashMap;
import java.util.Map;
import java.util.Set;
import java.util.TreeMap;
import java.util.TreeSet;

/** The rules of ../shared/LANGUAGE.md that can be told from the compiled class and its objects. */
final class FaceTest {
    private static final Set<String> FACE = Set.of(
            "int feed(int, long)", "int man()", "int jar(int, int, int, int, int)", "int pour(int, boolean)",
            "int number(int, int)", "int dayOf(int, int)", "long mean(int, int, int)", "long lean(int)",
            "int worst(int)", "int turned(int)", "int manOf(int, int)", "int cut(int)", "int law(int, int)",
            "int called(int, int)", "int served(int, int)", "long wage(int, int, int)",
            "long does(int, int, int)", "long share(int, int)", "long serving(int, int, int)",
            "long truly(int, int, int)", "int faded(int, int)", "long group(int, int, int, int)",
            "int least(int)", "int shown()", "int moved()", "int cuts(int, int)", "int image()", "int on()",
            "int count(int)");

    public static void main(String[] args) throws Exception {
        Cases.run(FaceTest.class);
    }

    private static void isTrue(String what, boolean is) {
        Due.due(what + ": that it is so", is ? 1 : 0, 1);
    }

    // 1. "The face: the class of the document, public and final, with the public constructor, methods and constants
    // of the document and no other public, protected or package-visible member, but for the classes inside it, which
    // are private or package-visible and static."
    static void r01_theClassIsPublicAndFinal() {
        Due.due("final and public", GlassJar.class.getModifiers(), Modifier.PUBLIC | Modifier.FINAL);
        Constructor<?>[] constructors = GlassJar.class.getDeclaredConstructors();
        Due.due("constructors", constructors.length, 1);
        Due.due("its parameters", constructors[0].getParameterCount(), 0);
        Due.due("public constructor", constructors[0].getModifiers(), Modifier.PUBLIC);
    }

    static void r01_theFaceIsTheDocuments() {
        Set<String> face = new TreeSet<>();
        for (Method method : GlassJar.class.getDeclaredMethods()) {
            if (Modifier.isPublic(method.getModifiers())) {
                String text = method.toString();
                face.add(text.substring("public ".length()).replace("GlassJar.", "").replace(",", ", "));
            }
        }
        isTrue("the face " + face, face.equals(FACE));
    }

    static void r01_allElseIsPrivate() {
        for (Method method : GlassJar.class.getDeclaredMethods()) {
            isTrue("private " + method, Modifier.isPublic(method.getModifiers()) || isPrivate(method));
        }
        for (Field field : GlassJar.class.getDeclaredFields()) {
            isTrue("private " + field, isPrivate(field));
        }
        for (Class<?> inside : GlassJar.class.getDeclaredClasses()) {
            isTrue("static " + inside, Modifier.isStatic(inside.getModifiers()));
            isTrue("not public " + inside, (inside.getModifiers() & (Modifier.PUBLIC | Modifier.PROTECTED)) == 0);
        }
    }

    private static boolean isPrivate(Member member) {
        return Modifier.isPrivate(member.getModifiers());
    }

    // 1. "No private method bears the name of a public one."
    static void r01_noPrivateMethodBearsAPublicName() {
        Set<String> names = new HashSet<>();
        for (Method method : GlassJar.class.getDeclaredMethods()) {
            if (Modifier.isPublic(method.getModifiers())) {
                names.add(method.getName());
            }
        }
        for (Method method : GlassJar.class.getDeclaredMethods()) {
            isTrue("a name of its own: " + method, Modifier.isPublic(method.getModifiers())
                    || !names.contains(method.getName()));
        }
        for (Class<?> inside : GlassJar.class.getDeclaredClasses()) {
            for (Method method : inside.getDeclaredMethods()) {
                isTrue("a name of its own: " + method, !names.contains(method.getName()));
            }
        }
    }

    // 4. "constants, whose signs are 1 to 127"
    static void r04_theSourceHasNoSignsAbove126() throws Exception {
        String source = Files.readString(Path.of("src/main/java/GlassJar.java"));
        for (int i = 0; i < source.length(); i++) {
            if (source.charAt(i) > 126) {
                Due.due("sign " + i, source.charAt(i), 126);
            }
        }
        isTrue("a source", source.length() > 0);
    }

    // 5. "arrays .. written out in their initialiser and never changed"
    static void r05_staticRowsNeverChange() throws Exception {
        Map<String, int[]> before = staticRows();
        Run x = Run.plain().men("s0,1", "c300,2").due(2, "image");
        for (int law = 0; law < 5; law++) {
            x.ask("law", law, 77);
        }
        x.ask("mean", 0, 11, 0);
        x.ask("group", 0, 11, 0, 0);
        x.ask("on");
        Map<String, int[]> after = staticRows();
        isTrue("rows", before.size() > 2);
        for (Map.Entry<String, int[]> row : before.entrySet()) {
            isTrue(row.getKey(), Arrays.equals(row.getValue(), after.get(row.getKey())));
        }
    }

    private static Map<String, int[]> staticRows() throws Exception {
        Map<String, int[]> rows = new TreeMap<>();
        for (Field field : GlassJar.class.getDeclaredFields()) {
            if (field.getType() == int[].class && Modifier.isStatic(field.getModifiers())) {
                field.setAccessible(true);
                rows.put(field.getName(), ((int[]) field.get(null)).clone());
            }
        }
        return rows;
    }

    // 7. "a reference against null before it is used": no field is null, and none can become it.
    static void r07_noFieldIsNull() throws Exception {
        for (Object part : partsOf(new GlassJar()).keySet()) {
            for (Field field : fieldsOf(part)) {
                if (!field.getType().isPrimitive()) {
                    isTrue(field + " is there", field.get(part) != null);
                    isTrue(field + " is final", Modifier.isFinal(field.getModifiers()));
                }
            }
        }
    }

    // 12. "What a run makes is counted": one of 512 objects fits the room that all calls of a run live in.
    static void r12_aRunOf512ObjectsFitsTheRoom() throws Exception {
        long objects = 0;
        long elements = 0;
        for (int size : partsOf(new GlassJar()).values()) {
            objects++;
            elements += size;
        }
        isTrue("objects: " + objects, objects * 512 < 600000);
        isTrue("fields and elements: " + elements, elements * 512 < 7300000);
    }

    /** An object, all objects and rows that it holds, and how many fields or elements each has. */
    private static Map<Object, Integer> partsOf(Object whole) throws Exception {
        Map<Object, Integer> parts = new IdentityHashMap<>();
        Deque<Object> left = new ArrayDeque<>();
        left.push(whole);
        while (!left.isEmpty()) {
            Object part = left.pop();
            parts.put(part, part.getClass().isArray() ? Array.getLength(part) : fieldsOf(part).size());
            for (Field field : fieldsOf(part)) {
                if (!field.getType().isPrimitive() && !parts.containsKey(field.get(part))) {
                    left.push(field.get(part));
                }
            }
        }
        return parts;
    }

    /** A row has elements and no fields. */
    private static Set<Field> fieldsOf(Object part) {
        Set<Field> fields = new HashSet<>();
        for (Field field : part.getClass().getDeclaredFields()) {
            if (!Modifier.isStatic(field.getModifiers())) {
                field.setAccessible(true);
                fields.add(field);
            }
        }
        return fields;
    }

    // 13. "the same calls always give the same answers"
    static void r13_objectsKnowNothingOfOneAnother() {
        Run other = new Run();
        Run one = new Run().due(1, "jar", 0, 9, 50, 3, 4).due(195, "cut", 3).due(150, "law", 1, 5).due(3, "least", 9);
        one.man("s1,1").due(1, "image").feed("s").refused(-1, "number", 2, 0);
        other.due(4, "number", 0, 0).due(195, "cut", 7).due(150, "law", 1, 7).due(3, "least", 7).due(0, "count", 0);
        other.due(0, "count", 3).refused(-3, "on");
    }
}
