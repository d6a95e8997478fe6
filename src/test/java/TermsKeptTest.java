/** Terms: KEPT rows, the room for them, and OVERRUN. */
public final class TermsKeptTest {
    private static final Check CHECK = new Check("TermsKeptTest");

    private static void kept(String what, RasterRows x, int rows, int bytes) {
        CHECK.same(what + ", rows kept", x.look(10), rows);
        CHECK.same(what + ", bytes kept", x.look(11), bytes);
    }

    private static RasterRows opened(int width) {
        RasterRows x = new RasterRows(64, 300, 75);
        x.size(false, width);
        x.open(0, 0);
        return x;
    }

    private static void nothingAtFirst() {
        RasterRows x = opened(0);
        kept("at first", x, 0, 0);
        CHECK.same("OVERRUN at first", x.look(12), 0);
    }

    private static void oneBlackDot() {
        for (int bit = 0; bit < 8; bit++) {
            RasterRows x = opened(24);
            Check.giveRow(x, 0, 0, 1 << bit);
            kept("bit " + bit, x, 1, 2);
        }
    }

    private static void noBlackDot() {
        RasterRows x = opened(24);
        Check.giveRow(x, 0);
        Check.giveRow(x, 0, 0, 0, 0);
        Check.giveRow(x, 1, 255, 0);
        kept("white rows", x, 0, 0);
        CHECK.same("OVERRUN", x.look(12), 0);
        CHECK.same("ROW", x.look(6), 3);
    }

    private static void fromWidthOnNotCounted() {
        for (int width = 17; width < 24; width++) {
            RasterRows x = opened(width);
            Check.giveRow(x, 0, 0, 0, 255 >> (width - 16));
            kept("dots from WIDTH " + width + " on", x, 0, 0);
            Check.giveRow(x, 0, 0, 1, 255 >> (width - 16));
            kept("one before, not reaching to them", x, 1, 2);
            Check.giveRow(x, 0, 0, 0, 256 >> (width - 16));
            kept("the last dot of WIDTH " + width, x, 2, 5);
        }
    }

    private static void bytesToTheLast() {
        RasterRows x = opened(0);
        Check.giveRow(x, 0, 1);
        kept("the first byte", x, 1, 1);
        Check.giveRow(x, 0, 1, 0, 0, 0);
        kept("zeros behind it", x, 2, 2);
        Check.giveRow(x, 0, 0, 0, 1);
        kept("zeros before it", x, 3, 5);
        Check.giveRow(x, 3, 31, 255, 255, 98, 1);
        kept("the last byte of 640", x, 4, 645);
        Check.giveRow(x, 3, 31, 255, 255, 98, 0);
        kept("no more the last one", x, 5, 648);
    }

    private static void outsideTheSheet() {
        int[][] places = {{-10000, 0}, {10000, 0}, {0, -10000}, {0, 10000}, {64, 300}, {-8, -1}};
        for (int[] place : places) {
            RasterRows x = new RasterRows(64, 300, 75);
            x.open(place[0], place[1]);
            Check.giveRow(x, 0, 0, 0, 0, 0);
            kept("white at " + place[0] + ", " + place[1], x, 0, 0);
            Check.giveRow(x, 0, 255);
            kept("black at " + place[0] + ", " + place[1], x, 1, 1);
        }
    }

    private static void severalRasters() {
        RasterRows x = opened(0);
        Check.giveRow(x, 0, 1);
        x.shut();
        kept("after shut", x, 1, 1);
        x.open(0, 0);
        kept("after open", x, 1, 1);
        Check.giveRow(x, 0, 1, 1);
        kept("the same line again", x, 2, 3);
    }

    /** 102 rows of 640 bytes leave room for 256 bytes. */
    private static RasterRows nearlyFull() {
        RasterRows x = opened(0);
        Check.giveRow(x, 1, 255, 255, 255, 255, 127, 255);
        x.method(3);
        for (int i = 1; i < 102; i++) {
            x.row();
        }
        kept("nearly full", x, 102, 65280);
        CHECK.same("nearly full, OVERRUN", x.look(12), 0);
        return x;
    }

    private static RasterRows full() {
        RasterRows x = nearlyFull();
        Check.giveRow(x, 1, 255, 1);
        return x;
    }

    private static void exactly65536Bytes() {
        RasterRows x = full();
        kept("full", x, 103, 65536);
        CHECK.same("full, OVERRUN", x.look(12), 0);
        CHECK.same("the last row is drawn", x.line(102, 0), 0x0101010101010101L);
    }

    private static void byte65537() {
        RasterRows x = nearlyFull();
        Check.giveRow(x, 1, 255, 1, 0, 1);
        kept("257 bytes", x, 102, 65280);
        CHECK.same("257 bytes, OVERRUN", x.look(12), 1);
        RasterRows y = full();
        Check.giveRow(y, 0, 1);
        kept("one byte", y, 103, 65536);
        CHECK.same("one byte, OVERRUN", y.look(12), 1);
    }

    /** Goes beyond the 512 calls that the document speaks of: the limit stands there all the same. */
    private static RasterRows all4096Rows() {
        RasterRows x = new RasterRows(64, 5100, 75);
        x.open(0, 0);
        Check.giveRow(x, 0, 128);
        x.method(3);
        for (int i = 1; i < 4096; i++) {
            x.row();
        }
        return x;
    }

    private static void exactly4096Rows() {
        RasterRows x = all4096Rows();
        kept("all rows", x, 4096, 4096);
        CHECK.same("OVERRUN", x.look(12), 0);
        CHECK.yes("the last row is drawn", x.black(0, 4095));
    }

    private static void row4097() {
        RasterRows x = all4096Rows();
        CHECK.same("its number", x.row(), 4096);
        kept("a row too many", x, 4096, 4096);
        CHECK.same("OVERRUN", x.look(12), 1);
        CHECK.no("it is not drawn", x.black(0, 4096));
        CHECK.same("black dots", x.look(13), 4096);
    }

    private static void blackensNothing() {
        RasterRows x = nearlyFull();
        String[] before = lines(x);
        Check.giveRow(x, 1, 255, 255, 0, 255);
        CHECK.same("black dots", x.look(13), 102 * 64);
        CHECK.yes("all lines", java.util.Arrays.equals(lines(x), before));
    }

    private static String[] lines(RasterRows x) {
        String[] told = new String[300];
        for (int y = 0; y < 300; y++) {
            told[y] = Long.toHexString(x.line(y, 0));
        }
        return told;
    }

    private static void allElseAsSaid() {
        RasterRows x = nearlyFull();
        CHECK.same("its number", Check.giveRow(x, 1, 255, 3, 0, 4), 102);
        CHECK.same("ROW", x.look(6), 103);
        CHECK.same("bytes to come", x.look(9), 0);
        CHECK.same("seed(255)", x.seed(255), 3);
        CHECK.same("seed(256)", x.seed(256), 4);
        CHECK.same("seed(257)", x.seed(257), 0);
        CHECK.same("the next row is drawn below it", Check.giveRow(x, 3, 31, 225, 0), 103);
        CHECK.same("from its SEED", x.line(103, 0), 0x0303030303030303L);
        kept("the next row", x, 103, 65536);
    }

    private static void overrunStays() {
        RasterRows x = nearlyFull();
        Check.giveRow(x, 1, 255, 1, 0, 1);
        Check.giveRow(x, 0, 1);
        CHECK.same("behind a row for which there is room", x.look(12), 1);
        x.shut();
        x.open(0, 0);
        CHECK.same("in another raster", x.look(12), 1);
    }

    private static void smallerRowHasRoom() {
        RasterRows x = nearlyFull();
        Check.giveRow(x, 1, 255, 1, 0, 1);
        Check.giveRow(x, 0, 1, 1);
        kept("two bytes", x, 103, 65282);
        CHECK.same("they are drawn", x.line(103, 0), 0x0101000000000000L);
        Check.giveRow(x, 1, 253, 1, 0, 1);
        kept("255 bytes are one too many", x, 103, 65282);
        Check.giveRow(x, 1, 253, 1);
        kept("254 bytes are not", x, 104, 65536);
    }

    private static void whiteRowNeedsNoRoom() {
        RasterRows x = full();
        Check.giveRow(x, 0);
        Check.giveRow(x, 1, 255, 0);
        CHECK.same("OVERRUN", x.look(12), 0);
        CHECK.same("ROW", x.look(6), 105);
        x.shut();
        x.size(false, 4);
        x.open(0, 0);
        Check.giveRow(x, 0, 0x0f);
        CHECK.same("OVERRUN by dots from WIDTH on", x.look(12), 0);
    }

    private static void outsideNeedsRoomToo() {
        RasterRows x = full();
        x.shut();
        x.open(0, 10000);
        Check.giveRow(x, 0, 1);
        CHECK.same("OVERRUN by a row outside the sheet", x.look(12), 1);
    }

    private static void room() {
        CHECK.sentence("there is room for .. 65536 bytes: full", TermsKeptTest::exactly65536Bytes);
        CHECK.sentence("there is room for .. 65536 bytes: one more", TermsKeptTest::byte65537);
        CHECK.sentence("there is room for 4096 rows: full", TermsKeptTest::exactly4096Rows);
        CHECK.sentence("there is room for 4096 rows: one more", TermsKeptTest::row4097);
        CHECK.sentence("If there is none, it does not blacken anything", TermsKeptTest::blackensNothing);
        CHECK.sentence("(all else as said)", TermsKeptTest::allElseAsSaid);
        CHECK.sentence("and the sheet is OVERRUN", TermsKeptTest::overrunStays);
        CHECK.sentence("If there is none: for a smaller row there is", TermsKeptTest::smallerRowHasRoom);
        CHECK.sentence("If there is none: a white row needs none", TermsKeptTest::whiteRowNeedsNoRoom);
        CHECK.sentence("If there is none: outside the sheet", TermsKeptTest::outsideNeedsRoomToo);
    }

    public static void main(String[] args) {
        CHECK.sentence("KEPT: nothing at first", TermsKeptTest::nothingAtFirst);
        CHECK.sentence("A row that has a black dot .. is KEPT", TermsKeptTest::oneBlackDot);
        CHECK.sentence("A row that has [no] black dot", TermsKeptTest::noBlackDot);
        CHECK.sentence("(not counting those from WIDTH on)", TermsKeptTest::fromWidthOnNotCounted);
        CHECK.sentence("with as many bytes as reach to its last one with such a dot", TermsKeptTest::bytesToTheLast);
        CHECK.sentence("KEPT: outside the sheet, too", TermsKeptTest::outsideTheSheet);
        CHECK.sentence("KEPT: of all rasters", TermsKeptTest::severalRasters);
        room();
        CHECK.finish();
    }
}
