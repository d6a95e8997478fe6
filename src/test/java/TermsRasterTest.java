/** Terms: a RASTER, its LENGTH, its SEED and its WIDTH. */
public final class TermsRasterTest {
    private static final Check CHECK = new Check("TermsRasterTest");

    private static void notOpenAtFirst() {
        RasterRows x = new RasterRows(64, 8, 75);
        CHECK.same("look(5)", x.look(5), 0);
        CHECK.fails("row()", IllegalStateException.class, x::row);
        CHECK.same("seed(0)", x.seed(0), -1);
        CHECK.yes("open(0, 0)", x.open(0, 0));
    }

    private static void noSizesAtFirst() {
        RasterRows x = new RasterRows(64, 8, 75);
        x.open(0, 0);
        CHECK.same("LENGTH", x.look(7), 640);
        CHECK.same("ROW as far as it can go", x.skip(10000), 10000);
        CHECK.same("ROW farther still", x.skip(10000), 20000);
        CHECK.same("a row there", x.row(), 20000);
        CHECK.same("no HEIGHT for shut", x.shut(), 20001);
    }

    private static void smallestSizes() {
        RasterRows x = new RasterRows(64, 8, 75);
        x.size(false, 1);
        x.size(true, 1);
        x.open(0, 0);
        CHECK.same("LENGTH of WIDTH 1", x.look(7), 1);
        CHECK.same("the one row", Check.giveRow(x, 0, 255, 255), 0);
        CHECK.same("its one dot", x.line(0, 0), Long.MIN_VALUE);
        CHECK.same("no row behind it", Check.giveRow(x, 0, 255), -1);
        CHECK.same("black dots", x.look(13), 1);
    }

    private static void scaleOfThen() {
        RasterRows x = new RasterRows(64, 20, 300);
        x.resolution(100);
        x.open(0, 0);
        CHECK.same("SCALE of the first", x.look(8), 3);
        Check.giveRow(x, 0, 0x80);
        CHECK.same("shut", x.shut(), 3);
        x.resolution(300);
        CHECK.same("the first one's dots stay", x.look(13), 9);
        x.open(0, 3);
        CHECK.same("SCALE of the second", x.look(8), 1);
        Check.giveRow(x, 0, 0x80);
        CHECK.same("and one dot more", x.look(13), 10);
        CHECK.same("shut", x.shut(), 4);
    }

    private static void beginsAnew() {
        RasterRows x = new RasterRows(64, 20, 75);
        x.open(0, 0);
        Check.giveRow(x, 1, 255, 255, 255, 255, 127, 255);
        x.skip(3);
        Check.giveRow(x, 1, 255, 255, 255, 255, 127, 255);
        x.shut();
        x.open(0, 9);
        CHECK.same("ROW", x.look(6), 0);
        for (int i = 0; i < 640; i++) {
            CHECK.same("seed(" + i + ")", x.seed(i), 0);
        }
        CHECK.same("a row like the SEED", Check.giveRow(x, 3), 0);
        CHECK.same("which is white", x.line(9, 0), 0);
    }

    private static void length(int width, int due) {
        RasterRows x = new RasterRows(64, 8, 75);
        x.size(false, width);
        x.open(0, 0);
        CHECK.same("LENGTH for WIDTH " + width, x.look(7), due);
        Check.giveRow(x, 1, 255, 9, 255, 9, 255, 9);
        CHECK.same("the last byte for WIDTH " + width, x.seed(due - 1), 9);
        CHECK.same("the byte behind it for WIDTH " + width, x.seed(due), -1);
    }

    private static void lengthOfWholeBytes() {
        length(8, 1);
        length(16, 2);
        length(24, 3);
        length(5104, 638);
        length(5112, 639);
    }

    private static void lengthWithSomethingLeftOver() {
        for (int width = 1; width < 8; width++) {
            length(width, 1);
            length(8 + width, 2);
            length(5112 + width, 640);
        }
    }

    private static void lengthWithoutWidth() {
        length(0, 640);
    }

    private static void firstDotOfAByte() {
        for (int bit = 0; bit < 8; bit++) {
            RasterRows x = new RasterRows(64, 8, 75);
            x.open(0, 0);
            Check.giveRow(x, 0, 0, 1 << bit);
            CHECK.same("bit " + bit + " of byte 1", x.line(0, 0), 1L << (48 + bit));
        }
    }

    private static RasterRows fullRow(int width) {
        RasterRows x = new RasterRows(64, 8, 75);
        x.size(false, width);
        x.open(0, 0);
        Check.giveRow(x, 0, 255, 255, 255, 255);
        return x;
    }

    private static void whiteFromWidthOn() {
        for (int width = 1; width <= 25; width++) {
            RasterRows x = fullRow(width);
            CHECK.yes("WIDTH " + width + ", the last dot", x.black(width - 1, 0));
            CHECK.no("WIDTH " + width + ", the dot behind", x.black(width, 0));
            CHECK.same("WIDTH " + width + ", all dots", x.look(13), width);
        }
    }

    /** Without a WIDTH no dot is clipped but by the sheet. */
    private static void nothingClippedWithoutWidth() {
        RasterRows x = new RasterRows(5100, 1, 75);
        x.open(0, 0);
        Check.giveRow(x, 1, 255, 255, 255, 255, 127, 255);
        CHECK.same("black dots", x.look(13), 5100);
        RasterRows left = new RasterRows(64, 1, 75);
        left.open(-5119, 0);
        Check.giveRow(left, 1, 255, 255, 255, 255, 127, 255);
        CHECK.same("the last dot alone", left.line(0, 0), Long.MIN_VALUE);
    }

    private static void widestRow() {
        RasterRows x = new RasterRows(64, 1, 75);
        x.size(false, 5119);
        x.open(-5118, 0);
        Check.giveRow(x, 1, 255, 255, 255, 255, 127, 255);
        CHECK.same("dot 5118 alone", x.line(0, 0), Long.MIN_VALUE);
        CHECK.same("dot 5119 stays in the bytes", x.seed(639), 255);
    }

    private static void clippedDotsStayInTheBytes() {
        for (int width = 1; width <= 24; width++) {
            RasterRows x = fullRow(width);
            CHECK.same("WIDTH " + width + ", the last byte", x.seed((width - 1) / 8), 255);
            Check.giveRow(x, 3);
            CHECK.same("WIDTH " + width + ", the last byte of a row like it", x.seed((width - 1) / 8), 255);
        }
    }

    public static void main(String[] args) {
        CHECK.sentence("A RASTER is OPEN or not (at first not).", TermsRasterTest::notOpenAtFirst);
        CHECK.sentence("a WIDTH and a HEIGHT (each .. or none)", TermsRasterTest::noSizesAtFirst);
        CHECK.sentence("a WIDTH and a HEIGHT (each a number above 0 ..)", TermsRasterTest::smallestSizes);
        CHECK.sentence("the SCALE that there is then", TermsRasterTest::scaleOfThen);
        CHECK.sentence("its ROW number 0, and a SEED, a row of bytes that are 0", TermsRasterTest::beginsAnew);
        CHECK.sentence("Rows have LENGTH bytes: WIDTH / 8", TermsRasterTest::lengthOfWholeBytes);
        CHECK.sentence("one more if something is left over", TermsRasterTest::lengthWithSomethingLeftOver);
        CHECK.sentence("without a WIDTH 640", TermsRasterTest::lengthWithoutWidth);
        CHECK.sentence("Bit 7 of a byte is its first dot.", TermsRasterTest::firstDotOfAByte);
        CHECK.sentence("Dots of a row from number WIDTH on count as white", TermsRasterTest::whiteFromWidthOn);
        CHECK.sentence("Dots of a row from number WIDTH on: no WIDTH", TermsRasterTest::nothingClippedWithoutWidth);
        CHECK.sentence("Dots of a row from number WIDTH on: the widest", TermsRasterTest::widestRow);
        CHECK.sentence("(but stay in the bytes)", TermsRasterTest::clippedDotsStayInTheBytes);
        CHECK.finish();
    }
}
