/** Promise 3: size. TermsRasterTest has the LENGTH that follows from the WIDTH. */
public final class P03SizeTest {
    private static final Check CHECK = new Check("P03SizeTest");

    private static void width() {
        RasterRows x = new RasterRows(64, 8, 75);
        for (int n : new int[] {1, 8, 9, 12, 64}) {
            x.eject();
            CHECK.yes("size(false, " + n + ")", x.size(false, n));
            x.open(0, 0);
            CHECK.same("LENGTH of WIDTH " + n, x.look(7), (n + 7) / 8);
            Check.giveRow(x, 1, 255, 255);
            CHECK.same("dots of WIDTH " + n, x.look(13), n);
            CHECK.same("no HEIGHT by WIDTH " + n, x.skip(10000), 10001);
            x.shut();
        }
    }

    private static void height() {
        RasterRows x = new RasterRows(64, 8, 75);
        for (int n : new int[] {1, 2, 7}) {
            CHECK.yes("size(true, " + n + ")", x.size(true, n));
            x.open(0, 0);
            CHECK.same("no WIDTH by HEIGHT " + n, x.look(7), 640);
            CHECK.same("skip to HEIGHT " + n, x.skip(n), n);
            CHECK.same("no row at HEIGHT " + n, x.row(), -1);
            CHECK.same("shut", x.shut(), n);
        }
    }

    private static void ofTheNextRaster() {
        RasterRows x = new RasterRows(64, 8, 75);
        x.size(false, 12);
        x.size(true, 2);
        x.open(0, 0);
        CHECK.yes("size(false, 20) while open", x.size(false, 20));
        CHECK.yes("size(true, 1) while open", x.size(true, 1));
        CHECK.same("LENGTH of the open raster", x.look(7), 2);
        Check.giveRow(x, 0, 255, 255, 255);
        CHECK.same("dots of the open raster", x.look(13), 12);
        CHECK.same("HEIGHT of the open raster", x.skip(9), 2);
        CHECK.same("shut has it, too", x.shut(), 2);
        x.eject();
        x.open(0, 0);
        CHECK.same("LENGTH of the next raster", x.look(7), 3);
        Check.giveRow(x, 0, 255, 255, 255);
        CHECK.same("dots of the next raster", x.look(13), 20);
        CHECK.same("HEIGHT of the next raster", x.skip(9), 1);
    }

    /** The document names no call that takes a size back, but size itself. */
    private static void ofLaterRasters() {
        RasterRows x = new RasterRows(64, 8, 75);
        x.size(false, 12);
        x.size(true, 2);
        for (int i = 0; i < 3; i++) {
            x.open(0, 0);
            CHECK.same("LENGTH of raster " + i, x.look(7), 2);
            CHECK.same("HEIGHT of raster " + i, x.skip(9), 2);
            x.shut();
            x.eject();
        }
        x.size(false, 30);
        x.size(false, 17);
        x.open(0, 0);
        CHECK.same("the size that was set last", x.look(7), 3);
        CHECK.same("the HEIGHT stays", x.skip(9), 2);
    }

    private static void noneForZero() {
        RasterRows x = new RasterRows(64, 8, 75);
        x.size(false, 12);
        x.size(true, 2);
        CHECK.yes("size(false, 0)", x.size(false, 0));
        x.open(0, 0);
        CHECK.same("LENGTH without WIDTH", x.look(7), 640);
        CHECK.same("the HEIGHT stays", x.skip(9), 2);
        x.shut();
        x.size(false, 12);
        CHECK.yes("size(true, 0)", x.size(true, 0));
        x.open(0, 0);
        CHECK.same("the WIDTH", x.look(7), 2);
        CHECK.same("skip without HEIGHT", x.skip(10000), 10000);
        CHECK.same("shut without HEIGHT", x.shut(), 10000);
    }

    private static void largest() {
        RasterRows x = new RasterRows(64, 8, 75);
        CHECK.yes("size(false, 5119)", x.size(false, 5119));
        CHECK.yes("size(true, 5119)", x.size(true, 5119));
        x.open(0, 0);
        CHECK.same("LENGTH of 5119", x.look(7), 640);
        CHECK.same("skip to the HEIGHT", x.skip(5118), 5118);
        CHECK.same("the last row", x.row(), 5118);
        CHECK.same("no row behind it", x.row(), -1);
        CHECK.same("skip past it", x.skip(10000), 5119);
        CHECK.same("shut", x.shut(), 5119);
    }

    private static void refused(int n) {
        RasterRows x = new RasterRows(64, 8, 75);
        x.size(false, 12);
        x.size(true, 3);
        CHECK.no("size(false, " + n + ")", x.size(false, n));
        CHECK.no("size(true, " + n + ")", x.size(true, n));
        x.open(0, 0);
        CHECK.same("LENGTH after size " + n, x.look(7), 2);
        CHECK.same("HEIGHT after size " + n, x.skip(10000), 3);
        CHECK.no("size(false, " + n + ") while open", x.size(false, n));
        CHECK.no("size(true, " + n + ") while open", x.size(true, n));
    }

    private static void tooSmall() {
        refused(-1);
        refused(-5119);
        refused(Integer.MIN_VALUE);
    }

    private static void tooLarge() {
        refused(5120);
        refused(5121);
        refused((1 << 16) + 8);
        refused(Integer.MAX_VALUE);
    }

    public static void main(String[] args) {
        CHECK.sentence("The WIDTH", P03SizeTest::width);
        CHECK.sentence("(or with high the HEIGHT)", P03SizeTest::height);
        CHECK.sentence("that the next raster will have", P03SizeTest::ofTheNextRaster);
        CHECK.sentence("that the next raster will have: and those behind it", P03SizeTest::ofLaterRasters);
        CHECK.sentence("none if n is 0: true", P03SizeTest::noneForZero);
        CHECK.sentence("false if n is not 0 .. 5119: 5119 is", P03SizeTest::largest);
        CHECK.sentence("false if n is not 0 ..", P03SizeTest::tooSmall);
        CHECK.sentence("false if n is not .. 5119", P03SizeTest::tooLarge);
        CHECK.finish();
    }
}
