/** Promise 13: seed. */
public final class P13SeedTest {
    private static final Check CHECK = new Check("P13SeedTest");

    private static void none(String when, RasterRows x, int... places) {
        for (int i : places) {
            CHECK.same(when + ", seed(" + i + ")", x.seed(i), -1);
        }
    }

    private static RasterRows opened(int width) {
        RasterRows x = new RasterRows(64, 8, 75);
        x.size(false, width);
        x.open(0, 0);
        return x;
    }

    private static void eachByte() {
        RasterRows x = opened(0);
        for (int first = 0; first < 256; first += 8) {
            for (int i = first; i < first + 8; i++) {
                Check.give(x, i);
            }
        }
        x.row();
        for (int i = 0; i < 256; i++) {
            CHECK.same("seed(" + i + ")", x.seed(i), i);
        }
        CHECK.same("seed(256)", x.seed(256), 0);
        CHECK.same("seed(639)", x.seed(639), 0);
    }

    private static void notOfTheSheet() {
        RasterRows x = opened(12);
        Check.giveRow(x, 0, 0, 0x0f);
        CHECK.seedIs("dots from WIDTH on", x, 0, 0x0f);
        x.eject();
        CHECK.seedIs("behind eject", x, 0, 0x0f);
    }

    private static void belowZero() {
        none("below 0", opened(17), -1, -2, -640, Integer.MIN_VALUE, Integer.MIN_VALUE + 1);
        none("below 0 without a WIDTH", opened(0), -1, -2, -640, Integer.MIN_VALUE, Integer.MIN_VALUE + 1);
    }

    private static void fromLengthOn() {
        for (int width = 1; width <= 24; width++) {
            RasterRows x = opened(width);
            Check.giveRow(x, 1, 255, 255, 255, 255, 127, 255);
            int length = (width + 7) / 8;
            CHECK.same("the last byte of WIDTH " + width, x.seed(length - 1), 255);
            none("WIDTH " + width, x, length, length + 1, 639, 640, 641, Integer.MAX_VALUE - 1, Integer.MAX_VALUE);
        }
    }

    private static void from640On() {
        RasterRows x = opened(0);
        Check.giveRow(x, 1, 255, 1, 255, 2, 127, 3);
        CHECK.same("seed(0)", x.seed(0), 1);
        CHECK.same("seed(255)", x.seed(255), 1);
        CHECK.same("seed(256)", x.seed(256), 2);
        CHECK.same("seed(511)", x.seed(511), 2);
        CHECK.same("seed(512)", x.seed(512), 3);
        CHECK.same("seed(639)", x.seed(639), 3);
        none("without a WIDTH", x, 640, 641, 4096, Integer.MAX_VALUE - 1, Integer.MAX_VALUE);
    }

    private static void noRasterIsOpen() {
        RasterRows x = new RasterRows(64, 8, 75);
        none("at first", x, 0, 1, 639, 640, -1, Integer.MIN_VALUE, Integer.MAX_VALUE);
        x.open(0, 0);
        Check.giveRow(x, 0, 5, 6);
        CHECK.same("seed(0) in a raster", x.seed(0), 5);
        x.shut();
        none("after shut", x, 0, 1, 639, 640, -1, Integer.MIN_VALUE, Integer.MAX_VALUE);
    }

    public static void main(String[] args) {
        CHECK.sentence("Byte i of the SEED", P13SeedTest::eachByte);
        CHECK.sentence("Byte i of the SEED: not of the sheet", P13SeedTest::notOfTheSheet);
        CHECK.sentence("NONE if there is none such: below 0", P13SeedTest::belowZero);
        CHECK.sentence("NONE if there is none such: from LENGTH on", P13SeedTest::fromLengthOn);
        CHECK.sentence("NONE if there is none such: from 640 on", P13SeedTest::from640On);
        CHECK.sentence("or no raster is open", P13SeedTest::noRasterIsOpen);
        CHECK.finish();
    }
}
