/** Terms: the sheet, the RESOLUTION and the SCALE. */
public final class TermsSheetTest {
    private static final Check CHECK = new Check("TermsSheetTest");

    private static void dotsOfTheSheet() {
        int[][] sides = {{1, 1}, {1, 7}, {63, 2}, {64, 2}, {65, 2}, {5100, 1}, {1, 5100}};
        for (int[] side : sides) {
            RasterRows x = new RasterRows(side[0], side[1], 75);
            String name = side[0] + " by " + side[1];
            x.open(side[0] - 1, side[1] - 1);
            Check.giveRow(x, 0, 255);
            x.row();
            CHECK.same("the last dot alone of " + name, x.look(13), 1);
            CHECK.yes("the last dot of " + name, x.black(side[0] - 1, side[1] - 1));
            CHECK.fails("right of " + name, IndexOutOfBoundsException.class, () -> Check.bit(x.black(side[0], 0)));
            CHECK.fails("below " + name, IndexOutOfBoundsException.class, () -> Check.bit(x.black(0, side[1])));
        }
    }

    private static void whiteAtFirst() {
        for (int[] side : new int[][] {{1, 1}, {70, 3}, {5100, 2}, {2, 5100}}) {
            RasterRows x = new RasterRows(side[0], side[1], 300);
            CHECK.same("black dots", x.look(13), 0);
            for (int y = 0; y < side[1]; y++) {
                for (int k = 0; 64 * k < side[0]; k++) {
                    CHECK.same("line(" + y + ", " + k + ")", x.line(y, k), 0);
                }
                CHECK.no("black(0, " + y + ")", x.black(0, y));
            }
        }
    }

    private static void resolutionAtFirst() {
        int[][] due = {{75, 1}, {150, 2}, {300, 4}};
        for (int[] pair : due) {
            RasterRows x = new RasterRows(64, 8, pair[0]);
            CHECK.same("RESOLUTION at first", x.look(3), 75);
            x.open(0, 0);
            CHECK.same("the SCALE of it for DPI " + pair[0], x.look(8), pair[1]);
        }
    }

    private static void scale(int dpi, int r, int due) {
        RasterRows x = new RasterRows(64, 8, dpi);
        x.resolution(r);
        x.open(0, 0);
        String name = dpi + " / " + r;
        CHECK.same("SCALE " + name, x.look(8), due);
        Check.giveRow(x, 0, 0x80);
        CHECK.same("black dots of one dot, " + name, x.look(13), due * due);
        CHECK.same("the line below the raster, " + name, x.shut(), due);
    }

    private static void scaleIsTheQuotient() {
        scale(75, 75, 1);
        scale(150, 75, 2);
        scale(150, 150, 1);
        scale(300, 75, 4);
        scale(300, 100, 3);
        scale(300, 150, 2);
        scale(300, 300, 1);
    }

    private static void leftOverIsDropped() {
        scale(150, 100, 1);
    }

    private static void scaleIsAtLeastOne() {
        scale(75, 100, 1);
        scale(75, 150, 1);
        scale(75, 300, 1);
        scale(150, 300, 1);
    }

    public static void main(String[] args) {
        CHECK.sentence("x from 0 to W - 1, y from 0 to H - 1", TermsSheetTest::dotsOfTheSheet);
        CHECK.sentence("white at first", TermsSheetTest::whiteAtFirst);
        CHECK.sentence("THE RESOLUTION is 75, 100, 150 or 300 (75 at first)", TermsSheetTest::resolutionAtFirst);
        CHECK.sentence("the SCALE is DPI / RESOLUTION", TermsSheetTest::scaleIsTheQuotient);
        CHECK.sentence("(what is left over is dropped)", TermsSheetTest::leftOverIsDropped);
        CHECK.sentence("but at least 1", TermsSheetTest::scaleIsAtLeastOne);
        CHECK.finish();
    }
}
