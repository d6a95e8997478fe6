import java.util.function.LongSupplier;

/**
 * "No call may ever throw by itself (only by a throw statement) or fail to end, for any arguments in any state"
 * (LANGUAGE.md, rule 7): also far behind the 512th call, where the answers are free.
 */
public final class LongUseTest {
    private static final Check CHECK = new Check("LongUseTest");
    private static final int[] FAR = Check.FAR;

    private static void mayThrow(String what, String due, LongSupplier call) {
        String got = Check.answer(call);
        CHECK.yes(what + " answered " + got, got.matches("-?\\d+") || got.equals(due));
    }

    private static void askEverything(RasterRows x) {
        for (int a : FAR) {
            for (int b : FAR) {
                mayThrow("line", "", () -> x.line(a, b));
                mayThrow("black", "IndexOutOfBoundsException", () -> Check.bit(x.black(a, b)));
            }
            mayThrow("seed", "", () -> x.seed(a));
            mayThrow("look", "", () -> x.look(a));
            mayThrow("skip", "IllegalArgumentException", () -> x.skip(a));
        }
        Check.state(x);
    }

    /** ROW, and with it the lines that a row blackens, goes through all of an int and around. */
    private static void rowGoesAround(int dpi) {
        RasterRows x = new RasterRows(70, 9, dpi);
        x.open(10000, 10000);
        for (int i = 0; i < 450_000; i++) {
            x.skip(10000);
            if (i % 10_000 == 0) {
                x.data(0xffL, 1);
                mayThrow("row", "", x::row);
            }
        }
        askEverything(x);
        mayThrow("shut", "", x::shut);
        mayThrow("shut", "IllegalStateException", x::shut);
        CHECK.yes("open", x.open(0, 0));
    }

    private static void bytesOverAndOver() {
        RasterRows x = new RasterRows(70, 9, 300);
        x.open(0, 0);
        int taken = 0;
        for (int i = 0; i < 2000; i++) {
            taken += x.data(0xffffffffffffffffL, 8) ? 8 : 0;
        }
        CHECK.same("bytes taken", taken, 4096);
        for (int m = 0; m <= 3; m++) {
            x.method(m);
            for (int i = 0; i < 600; i++) {
                x.data(-1L, 8);
            }
            mayThrow("row", "", x::row);
        }
        askEverything(x);
    }

    private static void rowsOverAndOver() {
        RasterRows x = new RasterRows(5100, 5100, 300);
        x.open(-10000, -10000);
        Check.giveRow(x, 1, 255, 255, 255, 255, 127, 255);
        x.method(3);
        for (int i = 0; i < 20_000; i++) {
            mayThrow("row", "", x::row);
        }
        CHECK.same("rows kept", x.look(10), 102);
        CHECK.same("OVERRUN", x.look(12), 1);
        askEverything(x);
    }

    public static void main(String[] args) {
        CHECK.sentence("No call may ever throw by itself: ROW goes around", () -> rowGoesAround(75));
        CHECK.sentence("No call may ever throw by itself: ROW goes around, SCALE 4", () -> rowGoesAround(300));
        CHECK.sentence("No call may ever throw by itself: many bytes", LongUseTest::bytesOverAndOver);
        CHECK.sentence("No call may ever throw by itself: many rows", LongUseTest::rowsOverAndOver);
        CHECK.finish();
    }
}
