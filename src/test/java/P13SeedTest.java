/** Promise 13: seed. */
public final class P13SeedTest {
    private static final Check CHECK = new Check("P13SeedTest");

    private static void none(RasterRows x, int... places) {
        for (int i : places) {
            CHECK.same("seed(" + i + ")", x.seed(i), -1);
        }
    }

    public static void main(String[] args) {
        RasterRows x = new RasterRows(64, 8, 75);
        none(x, 0, -1, 639, Integer.MIN_VALUE, Integer.MAX_VALUE);
        x.size(false, 17);
        x.open(0, 0);
        CHECK.seedIs("at first", x, 0, 0, 0);
        none(x, -1, 3, 4, 639, 640, Integer.MIN_VALUE, Integer.MAX_VALUE);
        Check.giveRow(x, 0, 0, 128, 255);
        CHECK.seedIs("after a row", x, 0, 128, 255);
        none(x, -1, 3);
        x.shut();
        none(x, 0, 1, 2);
        x.size(false, 0);
        x.open(0, 0);
        Check.giveRow(x, 1, 255, 1, 255, 2, 127, 3);
        CHECK.same("seed(0)", x.seed(0), 1);
        CHECK.same("seed(511)", x.seed(511), 2);
        CHECK.same("seed(512)", x.seed(512), 3);
        CHECK.same("seed(639)", x.seed(639), 3);
        none(x, -1, 640, 641);
        CHECK.finish();
    }
}
