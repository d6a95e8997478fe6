import java.io.IOException;
import java.io.StringWriter;
import java.net.URI;
import java.net.URL;
import java.net.URLClassLoader;
import java.nio.file.Files;
import java.nio.file.Path;
import java.util.ArrayList;
import java.util.Comparator;
import java.util.List;
import java.util.regex.Matcher;
import java.util.regex.Pattern;
import java.util.stream.Stream;
import javax.tools.JavaCompiler;
import javax.tools.JavaFileObject;
import javax.tools.SimpleJavaFileObject;
import javax.tools.ToolProvider;

/** The examples of README.md answer what stands beside them. It is run from the project's directory. */
public final class ReadmeTest {
    private static final Check CHECK = new Check("ReadmeTest");
    private static final Pattern ANSWERS = Pattern.compile("(.*);\\s*// -> ([^:]+?)(:.*)?");
    private static final Pattern THROWS = Pattern.compile("(.*);\\s*// throws (\\w+)(:.*)?");

    private static List<String> javaLines(List<String> readme) {
        List<String> found = new ArrayList<>();
        boolean inside = false;
        for (String line : readme) {
            if (line.startsWith("```")) {
                inside = line.equals("```java");
            } else if (inside) {
                found.add(line);
            }
        }
        return found;
    }

    private static String quoted(String text) {
        return '"' + text + '"';
    }

    /** A line of an example as one that adds its call to wrong if the answer is not the one that it tells. */
    private static String tested(String line) {
        Matcher answers = ANSWERS.matcher(line);
        if (answers.matches()) {
            String call = answers.group(1);
            return "if (" + call + " != " + answers.group(2) + ") wrong.add(" + quoted(call) + ");";
        }
        Matcher fails = THROWS.matcher(line);
        if (fails.matches()) {
            String call = fails.group(1);
            return "try { " + call + "; wrong.add(" + quoted(call) + "); } catch (RuntimeException e) {"
                    + " if (e.getClass() != " + fails.group(2) + ".class) wrong.add(" + quoted(call) + "); }";
        }
        return line;
    }

    private static String program(List<String> lines) {
        StringBuilder text = new StringBuilder("public final class ReadmeLines implements Runnable {\n");
        text.append("public final java.util.List<String> wrong = new java.util.ArrayList<>();\n");
        text.append("@Override public String toString() { return wrong.toString(); }\n");
        text.append("@Override public void run() {\n");
        for (String line : lines) {
            text.append(tested(line)).append('\n');
        }
        return text.append("}\n}\n").toString();
    }

    private static boolean compiled(String program, Path out) {
        JavaFileObject file = new SimpleJavaFileObject(URI.create("string:///ReadmeLines.java"),
                JavaFileObject.Kind.SOURCE) {
            @Override
            public CharSequence getCharContent(boolean ignoreErrors) {
                return program;
            }
        };
        JavaCompiler compiler = ToolProvider.getSystemJavaCompiler();
        StringWriter told = new StringWriter();
        List<String> options = List.of("-d", out.toString(), "-cp", System.getProperty("java.class.path"));
        boolean done = compiler.getTask(told, null, null, options, null, List.of(file)).call();
        System.out.print(told);
        return done;
    }

    private static void examplesHold(List<String> lines, Path out) throws IOException, ReflectiveOperationException {
        boolean done = compiled(program(lines), out);
        CHECK.yes("the examples compile", done);
        if (!done) {
            return;
        }
        try (URLClassLoader loader = new URLClassLoader(new URL[] {out.toUri().toURL()})) {
            Runnable examples = (Runnable) loader.loadClass("ReadmeLines").getConstructor().newInstance();
            examples.run();
            CHECK.yes("not as README.md says: " + examples, examples.toString().equals("[]"));
        }
    }

    private static void remove(Path out) throws IOException {
        try (Stream<Path> files = Files.walk(out)) {
            for (Path file : files.sorted(Comparator.reverseOrder()).toList()) {
                Files.delete(file);
            }
        }
    }

    public static void main(String[] args) throws IOException, ReflectiveOperationException {
        List<String> lines = javaLines(Files.readAllLines(Path.of("README.md")));
        long told = lines.stream().filter(line -> !tested(line).equals(line)).count();
        CHECK.yes("README.md tells answers: " + told, told >= 30);
        for (String name : List.of("new RasterRows(", ".resolution(", ".size(", ".method(", ".open(", ".data(",
                ".row()", ".skip(", ".shut()", ".eject()", ".line(", ".black(", ".seed(", ".look(")) {
            CHECK.yes("an example has " + name, lines.stream().anyMatch(line -> line.contains(name)));
        }
        Path out = Files.createTempDirectory("readme");
        try {
            examplesHold(lines, out);
        } finally {
            remove(out);
        }
        CHECK.finish();
    }
}
