/** Promise 10: eject. */
public final class P10EjectTest {
    private static final Check CHECK = new Check("P10EjectTest");

    private static void white(String what, RasterRows x) {
        for (int y = 0; y < x.look(1); y++) {
            for (int k = 0; 64 * k < x.look(0); k++) {
                CHECK.same(what + ", line(" + y + ", " + k + ")", x.line(y, k), 0);
            }
        }
        CHECK.same(what + ", black dots", x.look(13), 0);
    }

    /** A sheet of which every dot is black. */
    private static RasterRows allBlack(int width, int height) {
        RasterRows x = new RasterRows(width, height, 75);
        x.open(0, 0);
        Check.giveRow(x, 1, 255, 255, 255, 255, 127, 255);
        x.method(3);
        for (int y = 1; y < height; y++) {
            x.row();
        }
        CHECK.same("black dots", x.look(13), width * height);
        return x;
    }

    private static void sheetIsWhite() {
        for (int[] side : new int[][] {{1, 1}, {64, 3}, {130, 20}, {5100, 2}}) {
            RasterRows x = allBlack(side[0], side[1]);
            x.eject();
            white("all was black", x);
            CHECK.no("the last dot", x.black(side[0] - 1, side[1] - 1));
        }
    }

    private static void whiteSheet() {
        RasterRows x = new RasterRows(64, 8, 75);
        x.eject();
        x.eject();
        white("all was white", x);
        CHECK.looks("all was white", x, 64, 8, 75, 75, 0, 0, -1, -1, -1, 0, 0, 0, 0, 0);
    }

    private static void drawnAnew() {
        RasterRows x = allBlack(64, 3);
        x.shut();
        x.eject();
        x.open(0, 1);
        Check.giveRow(x, 0, 0x81);
        CHECK.same("line 1", x.line(1, 0), 0x8100000000000000L);
        CHECK.same("black dots", x.look(13), 2);
        x.eject();
        white("a second time", x);
    }

    private static void nothingIsKept() {
        RasterRows x = allBlack(64, 8);
        CHECK.same("rows kept before", x.look(10), 8);
        CHECK.same("bytes kept before", x.look(11), 5120);
        x.eject();
        CHECK.same("rows kept", x.look(10), 0);
        CHECK.same("bytes kept", x.look(11), 0);
        Check.giveRow(x, 0, 0, 1);
        CHECK.same("rows kept since", x.look(10), 1);
        CHECK.same("bytes kept since", x.look(11), 2);
    }

    private static RasterRows overrun() {
        RasterRows x = allBlack(64, 102);
        x.row();
        CHECK.same("OVERRUN before", x.look(12), 1);
        return x;
    }

    private static void notOverrun() {
        RasterRows x = overrun();
        x.eject();
        CHECK.same("OVERRUN", x.look(12), 0);
        CHECK.same("rows kept", x.look(10), 0);
        CHECK.same("bytes kept", x.look(11), 0);
    }

    private static void roomAgain() {
        RasterRows x = overrun();
        x.shut();
        x.eject();
        x.open(0, 0);
        Check.giveRow(x, 1, 255, 255, 255, 255, 127, 255);
        x.method(3);
        for (int i = 1; i < 102; i++) {
            x.row();
        }
        CHECK.same("bytes kept", x.look(11), 65280);
        CHECK.same("OVERRUN", x.look(12), 0);
        CHECK.same("line 101", x.line(101, 0), -1);
        x.row();
        CHECK.same("OVERRUN again", x.look(12), 1);
    }

    private static void openRasterStays() {
        RasterRows x = new RasterRows(200, 20, 300);
        x.size(false, 30);
        x.size(true, 2);
        x.open(5, 1);
        Check.giveRow(x, 2, 253, 255);
        Check.give(x, 255, 1);
        x.eject();
        CHECK.looks("behind eject", x, 200, 20, 300, 75, 2, 1, 1, 4, 4, 2, 0, 0, 0, 0);
        CHECK.seedIs("the SEED stays", x, 255, 255, 255, 255);
        CHECK.same("the next row", x.row(), 1);
        CHECK.same("it is drawn below", x.line(5, 0), 0x0000000078000000L);
        CHECK.same("and goes on", x.line(5, 1), 0x7800000000000000L);
        CHECK.same("the HEIGHT stays", x.row(), -1);
        CHECK.same("shut", x.shut(), 9);
    }

    private static void noRasterIsOpened() {
        RasterRows x = new RasterRows(64, 8, 75);
        x.eject();
        CHECK.same("look(5) at first", x.look(5), 0);
        x.open(0, 0);
        Check.giveRow(x, 0, 1);
        x.shut();
        x.eject();
        CHECK.same("look(5) after shut", x.look(5), 0);
    }

    private static void nothingElse() {
        RasterRows x = new RasterRows(64, 8, 300);
        x.resolution(100);
        x.method(2);
        x.size(false, 9);
        Check.give(x, 1, 2, 3);
        x.eject();
        CHECK.looks("behind eject", x, 64, 8, 300, 100, 2, 0, -1, -1, -1, 3, 0, 0, 0, 0);
        x.open(0, 0);
        CHECK.same("the size stays", x.look(7), 2);
    }

    public static void main(String[] args) {
        CHECK.sentence("The sheet is white", P10EjectTest::sheetIsWhite);
        CHECK.sentence("The sheet is white: it was", P10EjectTest::whiteSheet);
        CHECK.sentence("The sheet is white: and drawn on anew", P10EjectTest::drawnAnew);
        CHECK.sentence("nothing is kept", P10EjectTest::nothingIsKept);
        CHECK.sentence("it is not OVERRUN", P10EjectTest::notOverrun);
        CHECK.sentence("nothing is kept: there is room again", P10EjectTest::roomAgain);
        CHECK.sentence("(An open raster stays so.)", P10EjectTest::openRasterStays);
        CHECK.sentence("(An open raster stays so.) No other is", P10EjectTest::noRasterIsOpened);
        CHECK.sentence("white, not kept, not OVERRUN: and nothing else", P10EjectTest::nothingElse);
        CHECK.finish();
    }
}
