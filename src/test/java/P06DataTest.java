/** Promise 6: data. */
public final class P06DataTest {
    private static final Check CHECK = new Check("P06DataTest");

    private static void order() {
        long part = 0x8182838485868788L;
        for (int n = 1; n <= 8; n++) {
            RasterRows x = new RasterRows(64, 8, 75);
            x.size(false, 72);
            x.open(0, 0);
            CHECK.yes("data(part, " + n + ")", x.data(part, n));
            CHECK.same("bytes to come", x.look(9), n);
            x.row();
            CHECK.same("none to come after row", x.look(9), 0);
            for (int i = 0; i < 9; i++) {
                CHECK.same("byte " + i + " of " + n, x.seed(i), i < n ? 0x88 - (n - 1) + i : 0);
            }
        }
    }

    private static void behind() {
        RasterRows x = new RasterRows(64, 8, 75);
        x.open(0, 0);
        x.data(0x0102, 2);
        x.data(-1, 1);
        x.data(0x030405, 3);
        x.row();
        CHECK.seedIs("parts in their order", x, 1, 2, 255, 3, 4, 5, 0);
    }

    private static void wrongOnes() {
        RasterRows x = new RasterRows(64, 8, 75);
        x.data(1, 1);
        for (int n : new int[] {0, -1, 9, Integer.MIN_VALUE, Integer.MAX_VALUE}) {
            CHECK.no("data(5, " + n + ")", x.data(5, n));
            CHECK.same("bytes to come after n " + n, x.look(9), 1);
        }
    }

    private static void full() {
        RasterRows x = new RasterRows(64, 8, 75);
        for (int i = 0; i < 511; i++) {
            x.data(0x0101010101010101L, 8);
        }
        CHECK.same("bytes to come", x.look(9), 4088);
        CHECK.yes("7 more", x.data(1, 7));
        CHECK.no("2 too many", x.data(1, 2));
        CHECK.no("8 too many", x.data(1, 8));
        CHECK.same("bytes to come", x.look(9), 4095);
        CHECK.yes("the last one", x.data(1, 1));
        CHECK.same("bytes to come", x.look(9), 4096);
        CHECK.no("one too many", x.data(1, 1));
        x.open(0, 0);
        x.row();
        CHECK.same("the last byte of the row", x.seed(639), 1);
        CHECK.yes("room again after row", x.data(1, 8));
    }

    public static void main(String[] args) {
        order();
        behind();
        wrongOnes();
        full();
        CHECK.finish();
    }
}
