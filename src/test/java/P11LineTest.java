/** Promise 11: line. */
public final class P11LineTest {
    private static final Check CHECK = new Check("P11LineTest");

    private static RasterRows blackLines(int width, int height) {
        RasterRows x = new RasterRows(width, height, 75);
        x.open(0, 0);
        Check.giveRow(x, 1, 255, 255, 255, 255, 127, 255);
        x.method(3);
        for (int y = 0; y < height; y++) {
            x.row();
        }
        return x;
    }

    private static void dotsOfALine() {
        RasterRows x = new RasterRows(130, 4, 75);
        x.open(0, 2);
        x.data(0x8000000000000001L, 8);
        x.data(0x4000000000000002L, 8);
        x.data(0xc0, 1);
        x.row();
        CHECK.same("line(2, 0)", x.line(2, 0), 0x8000000000000001L);
        CHECK.same("line(2, 1)", x.line(2, 1), 0x4000000000000002L);
        CHECK.same("line(2, 2)", x.line(2, 2), 0xc000000000000000L);
        CHECK.same("line(1, 0)", x.line(1, 0), 0);
        CHECK.same("line(3, 0)", x.line(3, 0), 0);
    }

    private static void firstOneHighest() {
        for (int dot = 0; dot < 128; dot++) {
            RasterRows x = new RasterRows(128, 1, 75);
            x.open(dot, 0);
            Check.giveRow(x, 0, 0x80);
            CHECK.same("dot " + dot + ", line(0, 0)", x.line(0, 0), dot < 64 ? 1L << (63 - dot) : 0);
            CHECK.same("dot " + dot + ", line(0, 1)", x.line(0, 1), dot < 64 ? 0 : 1L << (127 - dot));
        }
    }

    private static void rightOfTheSheet() {
        for (int w : new int[] {1, 2, 63, 64, 65, 127, 128, 129, 5055, 5056, 5057, 5099, 5100}) {
            RasterRows x = blackLines(w, 1);
            for (int k = 0; k < 82; k++) {
                int dots = Math.max(0, Math.min(64, w - 64 * k));
                long due = dots == 0 ? 0 : -1L << (64 - dots);
                CHECK.same("W " + w + ", line(0, " + k + ")", x.line(0, k), due);
            }
        }
    }

    private static void leftOfTheSheet() {
        RasterRows x = blackLines(100, 5);
        for (int k : new int[] {-1, -2, -100, -(1 << 26), -(1 << 26) + 1, Integer.MIN_VALUE, Integer.MIN_VALUE + 1}) {
            CHECK.same("line(0, " + k + ")", x.line(0, k), 0);
        }
    }

    /** 64 * k is 0 again, or 64, in the 32 bits of an int for some of these. */
    private static void farRightOfTheSheet() {
        RasterRows x = blackLines(100, 5);
        for (int k : new int[] {2, 80, 1 << 25, 1 << 26, (1 << 26) + 1, 1 << 27, 1 << 30, Integer.MAX_VALUE}) {
            CHECK.same("line(0, " + k + ")", x.line(0, k), 0);
        }
    }

    private static void aboveAndBelowTheSheet() {
        for (int height : new int[] {1, 5, 100}) {
            RasterRows x = blackLines(100, height);
            CHECK.same("the first line", x.line(0, 0), -1);
            CHECK.same("the last line", x.line(height - 1, 0), -1);
            for (int y : new int[] {-1, -2, height, height + 1, 5100, 1 << 26, 1 << 30}) {
                CHECK.same("line(" + y + ", 0)", x.line(y, 0), 0);
                CHECK.same("line(" + y + ", -1)", x.line(y, -1), 0);
            }
            for (int y : Check.FAR) {
                CHECK.same("line(" + y + ", 0)", x.line(y, 0), 0);
                CHECK.same("line(" + y + ", " + y + ")", x.line(y, y), 0);
            }
        }
    }

    public static void main(String[] args) {
        CHECK.sentence("Dots 64 * k .. 64 * k + 63 of line y", P11LineTest::dotsOfALine);
        CHECK.sentence("black 1, the first one highest", P11LineTest::firstOneHighest);
        CHECK.sentence("0 where there are none: from W on", P11LineTest::rightOfTheSheet);
        CHECK.sentence("0 where there are none: k below 0", P11LineTest::leftOfTheSheet);
        CHECK.sentence("0 where there are none: a large k", P11LineTest::farRightOfTheSheet);
        CHECK.sentence("0 where there are none: y", P11LineTest::aboveAndBelowTheSheet);
        CHECK.finish();
    }
}
