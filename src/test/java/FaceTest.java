import java.lang.reflect.Constructor;
import java.lang.reflect.Field;
import java.lang.reflect.Method;
import java.lang.reflect.Modifier;
import java.util.Set;
import java.util.TreeSet;

/** The public face is the document's, and nothing else can be seen from outside. */
public final class FaceTest {
    private static final Check CHECK = new Check("FaceTest");
    private static final Set<String> DUE = Set.of(
            "public static final int RasterRows.NONE",
            "public RasterRows(int,int,int)",
            "public boolean RasterRows.resolution(int)",
            "public boolean RasterRows.size(boolean,int)",
            "public boolean RasterRows.method(int)",
            "public boolean RasterRows.open(int,int)",
            "public boolean RasterRows.data(long,int)",
            "public int RasterRows.row() throws java.lang.IllegalStateException",
            "public int RasterRows.skip(int) throws java.lang.IllegalArgumentException,java.lang.IllegalStateException",
            "public int RasterRows.shut() throws java.lang.IllegalStateException",
            "public void RasterRows.eject()",
            "public long RasterRows.line(int,int)",
            "public boolean RasterRows.black(int,int) throws java.lang.IndexOutOfBoundsException",
            "public int RasterRows.seed(int)",
            "public int RasterRows.look(int)");

    public static void main(String[] args) {
        Set<String> seen = new TreeSet<>();
        for (Field f : RasterRows.class.getDeclaredFields()) {
            if (!Modifier.isPrivate(f.getModifiers())) {
                seen.add(f.toString());
            }
        }
        for (Constructor<?> c : RasterRows.class.getDeclaredConstructors()) {
            seen.add(c.toString());
        }
        for (Method m : RasterRows.class.getDeclaredMethods()) {
            if (!Modifier.isPrivate(m.getModifiers())) {
                seen.add(m.toString());
            }
        }
        for (String member : DUE) {
            CHECK.yes("the face has " + member, seen.contains(member));
        }
        for (String member : seen) {
            CHECK.yes("the document has " + member, DUE.contains(member));
        }
        CHECK.same("the class's modifiers", RasterRows.class.getModifiers(), Modifier.PUBLIC | Modifier.FINAL);
        CHECK.finish();
    }
}
