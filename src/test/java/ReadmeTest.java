import com.sun.source.util.JavacTask;
import java.io.IOException;
import java.lang.reflect.Method;
import java.lang.reflect.Modifier;
import java.net.URI;
import java.nio.file.Files;
import java.nio.file.Path;
import java.util.List;
import java.util.Set;
import java.util.TreeSet;
import java.util.regex.Matcher;
import java.util.regex.Pattern;
import javax.tools.DiagnosticCollector;
import javax.tools.JavaCompiler;
import javax.tools.JavaFileObject;
import javax.tools.JavaFileObject.Kind;
import javax.tools.SimpleJavaFileObject;
import javax.tools.ToolProvider;

/** The example calls of README.md: the class and the Model answer what stands behind each. */
final class ReadmeTest {
    private static final Pattern FRESH = Pattern.compile("(GlassJar )?x = new GlassJar\\(\\);");
    private static final Pattern CALL = Pattern.compile("x\\.(\\w+)\\((.*)\\); +// (-?[0-9]+)(: .*)?");
    private static final int MOST_CALLS = 512;

    private final Set<String> shown = new TreeSet<>();
    private final StringBuilder examples = new StringBuilder();
    private GlassJar x;
    private Model model;
    private int calls = 0;

    public static void main(String[] args) throws Exception {
        new ReadmeTest().read(Files.readAllLines(Path.of("README.md")));
        Due.end("ReadmeTest");
    }

    private void read(List<String> lines) throws IOException {
        boolean inside = false;
        for (int i = 0; i < lines.size(); i++) {
            Due.within("README.md, line " + (i + 1));
            if (lines.get(i).startsWith("```")) {
                inside = lines.get(i).equals("```java");
            } else if (inside) {
                example(lines.get(i));
                examples.append(lines.get(i)).append('\n');
            }
        }
        Due.within("README.md");
        compile();
        Due.due("each call of the face is shown, of which " + shown + " are; that it", shown.equals(face()) ? 1 : 0, 1);
    }

    /** No line of an example goes unread: one of another form is a wrong answer. */
    private void example(String line) {
        Matcher call = CALL.matcher(line);
        if (FRESH.matcher(line).matches()) {
            x = new GlassJar();
            model = new Model();
            calls = 0;
        } else if (x == null || !call.matches()) {
            Due.due("a line that is no example, so that it", 1, 0);
        } else {
            calls++;
            Due.due("more than 512 calls, so that it", calls > MOST_CALLS ? 1 : 0, 0);
            compare(call.group(1), arguments(call.group(2)), Long.parseLong(call.group(3)));
        }
    }

    private void compare(String name, long[] a, long due) {
        shown.add(name);
        Due.due(name, Calls.call(x, name, a), due);
        Due.due(name + " of the Model", model.call(name, a), due);
    }

    private static long[] arguments(String text) {
        if (text.isEmpty()) {
            return new long[0];
        }
        String[] words = text.split(", ");
        long[] a = new long[words.length];
        for (int i = 0; i < words.length; i++) {
            a[i] = argument(words[i]);
        }
        return a;
    }

    private static long argument(String word) {
        if (word.equals("true") || word.equals("false")) {
            return word.equals("true") ? 1 : 0;
        }
        if (word.startsWith("'")) {
            return word.charAt(1);
        }
        return Long.decode(word.replace("L", ""));
    }

    /** The examples, from the first to the last, are the lines of one method. */
    private void compile() throws IOException {
        String text = "final class Shown { static void run() {\n" + examples + "} }";
        JavaFileObject file = new SimpleJavaFileObject(URI.create("string:///Shown.java"), Kind.SOURCE) {
            @Override
            public CharSequence getCharContent(boolean ignoreErrors) {
                return text;
            }
        };
        List<String> options = List.of("-proc:none", "-cp", System.getProperty("java.class.path"));
        DiagnosticCollector<JavaFileObject> found = new DiagnosticCollector<>();
        JavaCompiler compiler = ToolProvider.getSystemJavaCompiler();
        JavacTask task = (JavacTask) compiler.getTask(null, null, found, options, null, List.of(file));
        task.parse();
        task.analyze();
        Due.due("errors of the examples: " + found.getDiagnostics(), found.getDiagnostics().size(), 0);
    }

    private static Set<String> face() {
        Set<String> names = new TreeSet<>();
        for (Method method : GlassJar.class.getDeclaredMethods()) {
            if (Modifier.isPublic(method.getModifiers())) {
                names.add(method.getName());
            }
        }
        return names;
    }
}
