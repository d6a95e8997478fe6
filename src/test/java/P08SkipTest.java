/** Promise 8: skip. */
public final class P08SkipTest {
    private static final Check CHECK = new Check("P08SkipTest");

    private static void wrongOnes() {
        RasterRows x = new RasterRows(64, 8, 75);
        for (int n : new int[] {-1, 10001, Integer.MIN_VALUE, Integer.MAX_VALUE}) {
            CHECK.fails("skip(" + n + ") without a raster", IllegalArgumentException.class, () -> x.skip(n));
        }
        CHECK.fails("skip(0) without a raster", IllegalStateException.class, () -> x.skip(0));
        CHECK.fails("skip(10000) without a raster", IllegalStateException.class, () -> x.skip(10000));
        x.open(0, 0);
        Check.giveRow(x, 0, 1, 2, 3);
        String before = Check.state(x);
        for (int n : new int[] {-1, 10001, Integer.MIN_VALUE, Integer.MAX_VALUE}) {
            CHECK.fails("skip(" + n + ")", IllegalArgumentException.class, () -> x.skip(n));
            CHECK.unchanged("skip(" + n + ")", x, before);
        }
    }

    private static void withoutHeight() {
        RasterRows x = new RasterRows(64, 8, 150);
        x.open(0, 0);
        Check.giveRow(x, 2, 1, 255, 255);
        Check.give(x, 4);
        CHECK.same("skip(0)", x.skip(0), 1);
        CHECK.seedIs("skip(0) clears the seed", x, 0, 0, 0);
        CHECK.same("bytes to come stay", x.look(9), 1);
        CHECK.same("METHOD stays", x.look(4), 2);
        CHECK.same("skip(2)", x.skip(2), 3);
        x.method(0);
        CHECK.same("the row behind", x.row(), 3);
        CHECK.same("is drawn there", x.line(6, 0), 0x0030000000000000L);
        CHECK.same("skipped lines are white", x.line(5, 0), 0);
        CHECK.same("skip(10000)", x.skip(10000), 10004);
        CHECK.same("the last byte is 0", x.seed(639), 0);
        CHECK.same("rows kept", x.look(10), 2);
        CHECK.same("shut", x.shut(), 20008);
        CHECK.fails("skip(1) after shut", IllegalStateException.class, () -> x.skip(1));
    }

    private static void withHeight() {
        RasterRows x = new RasterRows(64, 8, 75);
        x.size(true, 5);
        x.open(0, 0);
        Check.giveRow(x, 0, 1, 2, 3);
        CHECK.same("skip(3)", x.skip(3), 4);
        CHECK.same("row 4", Check.giveRow(x, 0, 6), 4);
        CHECK.same("skip(1) at the HEIGHT", x.skip(1), 5);
        CHECK.same("it clears the seed, too", x.seed(0), 0);
        CHECK.same("skip(10000) at the HEIGHT", x.skip(10000), 5);
        CHECK.same("no more rows", x.row(), -1);
    }

    public static void main(String[] args) {
        wrongOnes();
        withoutHeight();
        withHeight();
        CHECK.finish();
    }
}
