import java.io.IOException;
import java.lang.reflect.Executable;
import java.lang.reflect.Field;
import java.lang.reflect.Method;
import java.lang.reflect.Modifier;
import java.nio.file.Files;
import java.nio.file.Path;
import java.util.ArrayList;
import java.util.List;
import java.util.Set;
import java.util.TreeSet;
import java.util.regex.Matcher;
import java.util.regex.Pattern;

/** What a text and the compiled classes can show of LANGUAGE.md. It is run from the project's directory. */
public final class LanguageTest {
    private static final Check CHECK = new Check("LanguageTest");
    private static final Path FILE = Path.of("src/main/java/RasterRows.java");
    /** The class needs none of these, though the language leaves it some of them. */
    private static final List<String> LEFT_OUT = List.of("->", "::", "\\btry\\b", "\\bcatch\\b", "\\bfinally\\b",
            "\\bsynchronized\\b", "\\bassert\\b", "\\bpackage\\b", "\\binstanceof\\b", "\\w+Exact\\b", "\\bequals\\b",
            "\\bhashCode\\b", "\\btoString\\b", "\\bstatic\\s*\\{", "\\bprotected\\b", "\\bvolatile\\b", "\\bnative\\b",
            "\\bSystem\\b", "\\bThread\\b", "\\bdouble\\b", "\\bfloat\\b", "@");
    private static final Set<String> LIBRARY = Set.of("Arrays.fill", "Math.max", "Math.min", "Long.bitCount");
    private static final Set<String> THROWN = Set.of("IllegalStateException", "IllegalArgumentException",
            "IndexOutOfBoundsException");

    private static String withoutCommentsAndTexts(String source) {
        return source.replaceAll("(?s)/\\*.*?\\*/", " ").replaceAll("//[^\n]*", " ").replaceAll("\"[^\"\n]*\"", "\"\"");
    }

    private static Set<String> found(String pattern, String code) {
        Set<String> found = new TreeSet<>();
        Matcher matcher = Pattern.compile(pattern).matcher(code);
        while (matcher.find()) {
            found.add(matcher.group(1));
        }
        return found;
    }

    private static void wordsLeftOut(String code) {
        for (String word : LEFT_OUT) {
            CHECK.no("the class has " + word, Pattern.compile(word).matcher(code).find());
        }
    }

    private static void library(String code) {
        CHECK.yes("imports", found("\\bimport\\s+([^;]+);", code).equals(Set.of("java.util.Arrays")));
        String body = code.replaceAll("import[^;]+;", "");
        Set<String> used = found("\\b((?:Arrays|Math|Long|Integer|String|List)\\.\\w+)", body);
        CHECK.yes("library " + used, LIBRARY.containsAll(used));
        Set<String> thrown = found("\\bthrow\\s+new\\s+(\\w+)", code);
        CHECK.yes("thrown " + thrown, thrown.equals(THROWN));
        CHECK.no("throws what is not new", Pattern.compile("\\bthrow\\s+(?!new\\b)").matcher(code).find());
    }

    private static List<Class<?>> classes() {
        List<Class<?>> all = new ArrayList<>();
        all.add(RasterRows.class);
        for (Class<?> inside : RasterRows.class.getDeclaredClasses()) {
            all.add(inside);
        }
        return all;
    }

    private static void names() {
        Set<String> shown = new TreeSet<>();
        for (Method m : RasterRows.class.getDeclaredMethods()) {
            if (Modifier.isPublic(m.getModifiers())) {
                shown.add(m.getName());
            }
        }
        for (Class<?> one : classes()) {
            for (Method m : one.getDeclaredMethods()) {
                boolean face = one == RasterRows.class && Modifier.isPublic(m.getModifiers());
                CHECK.yes(one + " has its own name for " + m.getName(), face || !shown.contains(m.getName()));
            }
        }
    }

    private static void classesInside() {
        CHECK.yes("at most twelve classes", classes().size() <= 12);
        for (Class<?> inside : RasterRows.class.getDeclaredClasses()) {
            int modifiers = inside.getModifiers();
            CHECK.yes(inside + " is static", Modifier.isStatic(modifiers));
            CHECK.no(inside + " is seen from outside", Modifier.isPublic(modifiers) || Modifier.isProtected(modifiers));
        }
    }

    private static void fields() {
        for (Class<?> one : classes()) {
            int own = 0;
            for (Field f : one.getDeclaredFields()) {
                boolean shared = Modifier.isStatic(f.getModifiers());
                own += shared ? 0 : 1;
                boolean constant = Modifier.isFinal(f.getModifiers()) && f.getType() == int.class;
                CHECK.yes(f + " is a constant", !shared || constant);
            }
            CHECK.yes(one + " has at most twenty fields", own <= 20);
        }
    }

    private static void parameters() {
        for (Class<?> one : classes()) {
            List<Executable> all = new ArrayList<>(List.of(one.getDeclaredMethods()));
            all.addAll(List.of(one.getDeclaredConstructors()));
            for (Executable m : all) {
                CHECK.yes(m + " has at most seven parameters", m.getParameterCount() <= 7);
            }
        }
    }

    public static void main(String[] args) throws IOException {
        String code = withoutCommentsAndTexts(Files.readString(FILE));
        CHECK.sentence("the part of it that these rules leave", () -> wordsLeftOut(code));
        CHECK.sentence("The library: only what stands here.", () -> library(code));
        CHECK.sentence("No private method bears the name of a public one.", LanguageTest::names);
        CHECK.sentence("the classes inside it, which are private or package-visible and static",
                LanguageTest::classesInside);
        CHECK.sentence("Static fields are final: constants of int", LanguageTest::fields);
        CHECK.sentence("A method takes at most seven parameters.", LanguageTest::parameters);
        CHECK.finish();
    }
}
