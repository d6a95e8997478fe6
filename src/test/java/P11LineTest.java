/** Promise 11: line. */
public final class P11LineTest {
    private static final Check CHECK = new Check("P11LineTest");

    private static void widths() {
        for (int w : new int[] {1, 2, 63, 64, 65, 127, 128, 129, 5099, 5100}) {
            RasterRows x = new RasterRows(w, 1, 75);
            x.open(0, 0);
            Check.giveRow(x, 1, 255, 255, 255, 255, 127, 255);
            for (int k = 0; k < 82; k++) {
                int dots = Math.max(0, Math.min(64, w - 64 * k));
                long due = dots == 0 ? 0 : -1L << (64 - dots);
                CHECK.same("W " + w + ", line(0, " + k + ")", x.line(0, k), due);
            }
        }
    }

    private static void order() {
        RasterRows x = new RasterRows(130, 4, 75);
        x.open(0, 2);
        x.data(0x8000000000000001L, 8);
        x.data(0x4000000000000002L, 8);
        x.data(0xc0, 1);
        x.row();
        CHECK.same("line(2, 0)", x.line(2, 0), 0x8000000000000001L);
        CHECK.same("line(2, 1)", x.line(2, 1), 0x4000000000000002L);
        CHECK.same("line(2, 2)", x.line(2, 2), 0xc000000000000000L);
        CHECK.same("line(1, 0)", x.line(1, 0), 0);
        CHECK.same("line(3, 0)", x.line(3, 0), 0);
    }

    private static void outside() {
        RasterRows x = new RasterRows(100, 5, 75);
        x.open(0, 0);
        Check.giveRow(x, 1, 255, 255);
        x.method(3);
        for (int i = 0; i < 6; i++) {
            x.row();
        }
        int[] far = {-1, -2, 1 << 26, 1 << 27, -(1 << 26), Integer.MIN_VALUE, Integer.MAX_VALUE};
        for (int n : far) {
            CHECK.same("line(0, " + n + ")", x.line(0, n), 0);
            CHECK.same("line(" + n + ", 0)", x.line(n, 0), 0);
            CHECK.same("line(" + n + ", " + n + ")", x.line(n, n), 0);
        }
        CHECK.same("line(4, 0)", x.line(4, 0), -1);
        CHECK.same("line(5, 0)", x.line(5, 0), 0);
        CHECK.same("line(0, 1)", x.line(0, 1), -1L << 28);
        CHECK.same("line(0, 2)", x.line(0, 2), 0);
    }

    public static void main(String[] args) {
        widths();
        order();
        outside();
        CHECK.finish();
    }
}
