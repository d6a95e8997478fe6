import java.util.LinkedHashMap;
import java.util.Map;
import java.util.function.Supplier;
import java.util.function.ToLongFunction;

/** "Of several exceptions the first one listed is thrown. What throws, or answers false, changes nothing." */
public final class RefusedTest {
    private static final Check CHECK = new Check("RefusedTest");
    private static final String STATE = "IllegalStateException";
    private static final String ARGUMENT = "IllegalArgumentException";
    private static final String INDEX = "IndexOutOfBoundsException";

    private static RasterRows settled() {
        RasterRows x = new RasterRows(70, 9, 300);
        x.resolution(150);
        x.size(false, 13);
        x.size(true, 3);
        x.method(2);
        x.data(0x02a1b2L, 3);
        return x;
    }

    private static RasterRows opened() {
        RasterRows x = settled();
        x.open(3, 2);
        x.row();
        x.size(false, 21);
        x.size(true, 2);
        x.method(3);
        x.data(0x0155L, 2);
        return x;
    }

    private static RasterRows atTheHeight() {
        RasterRows x = opened();
        x.row();
        x.row();
        x.data(0x44L, 1);
        return x;
    }

    private static RasterRows shut() {
        RasterRows x = opened();
        x.shut();
        x.method(1);
        return x;
    }

    private static RasterRows overrun() {
        RasterRows x = new RasterRows(70, 9, 75);
        x.open(-5100, 0);
        Check.giveRow(x, 1, 255, 255, 255, 255, 127, 255);
        x.method(3);
        for (int i = 0; i < 102; i++) {
            x.row();
        }
        return x;
    }

    /** 512 calls: as many bytes to come as there can be. */
    private static RasterRows fullOfBytes() {
        RasterRows x = new RasterRows(70, 9, 75);
        for (int i = 0; i < 512; i++) {
            x.data(0x8040201008040201L, 8);
        }
        return x;
    }

    private static Map<String, Supplier<RasterRows>> states() {
        Map<String, Supplier<RasterRows>> states = new LinkedHashMap<>();
        states.put("new", () -> new RasterRows(70, 9, 300));
        states.put("settled", RefusedTest::settled);
        states.put("opened", RefusedTest::opened);
        states.put("at the HEIGHT", RefusedTest::atTheHeight);
        states.put("shut", RefusedTest::shut);
        states.put("overrun", RefusedTest::overrun);
        states.put("full of bytes", RefusedTest::fullOfBytes);
        return states;
    }

    private static boolean isOpen(String state) {
        return state.equals("opened") || state.equals("at the HEIGHT") || state.equals("overrun");
    }

    private static void refused(String state, String call, String due, ToLongFunction<RasterRows> made) {
        String name = state + ": " + call;
        CHECK.changesNothing(name, states().get(state), x -> {
            String got = Check.answer(() -> made.applyAsLong(x));
            CHECK.yes(name + " answered " + got + ", due is " + due, got.equals(due));
        });
    }

    private static void everywhere(String call, String due, ToLongFunction<RasterRows> made) {
        for (String state : states().keySet()) {
            refused(state, call, due, made);
        }
    }

    private static void whereOpen(boolean open, String call, String due, ToLongFunction<RasterRows> made) {
        for (String state : states().keySet()) {
            if (isOpen(state) == open) {
                refused(state, call, due, made);
            }
        }
    }

    private static void falseResolution() {
        for (int r : new int[] {0, 74, 76, 200, 301, -75, Integer.MIN_VALUE, Integer.MAX_VALUE}) {
            everywhere("resolution(" + r + ")", "0", x -> Check.bit(x.resolution(r)));
        }
        for (int r : new int[] {75, 100, 150, 300}) {
            whereOpen(true, "resolution(" + r + ")", "0", x -> Check.bit(x.resolution(r)));
        }
    }

    private static void falseSize() {
        for (int n : new int[] {-1, 5120, Integer.MIN_VALUE, Integer.MAX_VALUE}) {
            everywhere("size(false, " + n + ")", "0", x -> Check.bit(x.size(false, n)));
            everywhere("size(true, " + n + ")", "0", x -> Check.bit(x.size(true, n)));
        }
    }

    private static void falseMethod() {
        for (int m : new int[] {-1, 4, Integer.MIN_VALUE, Integer.MAX_VALUE}) {
            everywhere("method(" + m + ")", "0", x -> Check.bit(x.method(m)));
        }
    }

    private static void falseOpen() {
        for (int n : new int[] {-10001, 10001, Integer.MIN_VALUE, Integer.MAX_VALUE}) {
            everywhere("open(" + n + ", 0)", "0", x -> Check.bit(x.open(n, 0)));
            everywhere("open(0, " + n + ")", "0", x -> Check.bit(x.open(0, n)));
        }
        whereOpen(true, "open(7, 5)", "0", x -> Check.bit(x.open(7, 5)));
    }

    private static void falseData() {
        for (int n : new int[] {0, -1, 9, Integer.MIN_VALUE, Integer.MAX_VALUE}) {
            everywhere("data(-1, " + n + ")", "0", x -> Check.bit(x.data(-1, n)));
        }
        for (int n = 1; n <= 8; n++) {
            int bytes = n;
            refused("full of bytes", "data(-1, " + n + ")", "0", x -> Check.bit(x.data(-1, bytes)));
        }
    }

    private static void thrownByRowAndShut() {
        whereOpen(false, "row()", STATE, RasterRows::row);
        whereOpen(false, "shut()", STATE, RasterRows::shut);
    }

    private static void thrownBySkip() {
        for (int n : new int[] {-1, 10001, Integer.MIN_VALUE, Integer.MAX_VALUE}) {
            whereOpen(true, "skip(" + n + ")", ARGUMENT, x -> x.skip(n));
        }
        for (int n : new int[] {0, 1, 10000}) {
            whereOpen(false, "skip(" + n + ")", STATE, x -> x.skip(n));
        }
    }

    private static void firstOfSeveral() {
        for (int n : new int[] {-1, 10001, Integer.MIN_VALUE, Integer.MAX_VALUE}) {
            whereOpen(false, "skip(" + n + ")", ARGUMENT, x -> x.skip(n));
        }
    }

    private static void thrownByBlack() {
        for (int n : new int[] {-1, 70, Integer.MIN_VALUE, Integer.MAX_VALUE}) {
            everywhere("black(" + n + ", 0)", INDEX, x -> Check.bit(x.black(n, 0)));
            everywhere("black(0, " + n + ")", INDEX, x -> Check.bit(x.black(0, n)));
        }
    }

    /** No promise lets a question change anything. */
    private static void questions() {
        for (String state : states().keySet()) {
            CHECK.changesNothing(state + ": line, black, seed and look", states().get(state), x -> {
                for (int n : new int[] {-1, 0, 1, 8, 13, 14, 639, 640, 1 << 26, Integer.MIN_VALUE, Integer.MAX_VALUE}) {
                    x.line(0, n);
                    x.line(n, 0);
                    x.seed(n);
                    x.look(n);
                }
                x.black(69, 8);
            });
        }
    }

    public static void main(String[] args) {
        CHECK.sentence("Of several exceptions the first one listed is thrown.", RefusedTest::firstOfSeveral);
        CHECK.sentence("What .. answers false, changes nothing: resolution", RefusedTest::falseResolution);
        CHECK.sentence("What .. answers false, changes nothing: size", RefusedTest::falseSize);
        CHECK.sentence("What .. answers false, changes nothing: method", RefusedTest::falseMethod);
        CHECK.sentence("What .. answers false, changes nothing: open", RefusedTest::falseOpen);
        CHECK.sentence("What .. answers false, changes nothing: data", RefusedTest::falseData);
        CHECK.sentence("What throws .. changes nothing: row, shut", RefusedTest::thrownByRowAndShut);
        CHECK.sentence("What throws .. changes nothing: skip", RefusedTest::thrownBySkip);
        CHECK.sentence("What throws .. changes nothing: black", RefusedTest::thrownByBlack);
        CHECK.sentence("Nothing is promised beyond the answers and state changes described", RefusedTest::questions);
        CHECK.finish();
    }
}
