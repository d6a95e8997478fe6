/** Promise 7: row. The tests whose names begin with Terms have the unpacking, the drawing, KEPT and OVERRUN. */
public final class P07RowTest {
    private static final Check CHECK = new Check("P07RowTest");

    private static RasterRows opened(int height) {
        RasterRows x = new RasterRows(64, 8, 75);
        x.size(true, height);
        x.open(0, 0);
        return x;
    }

    private static void perhapsNone() {
        for (int method = 0; method <= 3; method++) {
            RasterRows x = opened(0);
            Check.giveRow(x, 0, 7, 8);
            CHECK.same("a row of no bytes by METHOD " + method, Check.giveRow(x, method), 1);
            CHECK.seedIs("METHOD " + method, x, method == 3 ? 7 : 0, method == 3 ? 8 : 0, 0);
            CHECK.same("rows kept by METHOD " + method, x.look(10), method == 3 ? 2 : 1);
            CHECK.same("ROW behind it", x.look(6), 2);
        }
    }

    private static void noneToCome() {
        for (int method = 0; method <= 3; method++) {
            RasterRows x = opened(0);
            Check.giveRow(x, method, 0, 7, 8);
            CHECK.same("bytes to come behind METHOD " + method, x.look(9), 0);
            Check.giveRow(x, 0, 9);
            CHECK.seedIs("only the new bytes", x, 9, 0, 0);
        }
    }

    private static void itsNumber() {
        RasterRows x = opened(0);
        CHECK.same("the first row", x.row(), 0);
        CHECK.same("the second row", x.row(), 1);
        x.skip(10);
        CHECK.same("behind skip(10)", x.row(), 12);
        x.shut();
        x.open(0, 0);
        CHECK.same("in the next raster", x.row(), 0);
    }

    /** 511 rows behind open: as many as 512 calls allow. */
    private static void mostRows() {
        RasterRows x = opened(0);
        for (int i = 0; i < 511; i++) {
            CHECK.same("row " + i, x.row(), i);
        }
    }

    private static void noneBecauseOfHeight() {
        RasterRows x = opened(2);
        CHECK.same("row 0 of 2", x.row(), 0);
        CHECK.same("row 1 of 2", x.row(), 1);
        CHECK.same("row 2 of 2", x.row(), -1);
        CHECK.same("and again", x.row(), -1);
        x.shut();
        x.open(0, 0);
        CHECK.same("not in the next raster", x.row(), 0);
    }

    private static void numberWhenNothingElseChanges() {
        RasterRows x = opened(1);
        CHECK.same("a white row like the SEED", x.row(), 0);
        RasterRows below = opened(0);
        below.skip(100);
        CHECK.same("a row below the sheet", Check.giveRow(below, 0, 255), 100);
    }

    /** The promise has no condition for "there are none to come", so a row without effect takes its bytes, too. */
    private static void noneToComeAtTheHeight() {
        RasterRows x = opened(1);
        x.row();
        CHECK.same("a row too many", Check.giveRow(x, 0, 255, 7), -1);
        CHECK.same("bytes to come behind it", x.look(9), 0);
        x.shut();
        x.open(0, 0);
        x.row();
        CHECK.seedIs("they are not found in the next raster", x, 0, 0);
    }

    private static void noRasterIsOpen() {
        RasterRows x = new RasterRows(64, 8, 75);
        CHECK.fails("row() at first", IllegalStateException.class, x::row);
        Check.give(x, 1, 2);
        CHECK.fails("row() with bytes to come", IllegalStateException.class, x::row);
        CHECK.same("bytes to come stay", x.look(9), 2);
        x.open(0, 0);
        CHECK.same("row() in a raster", x.row(), 0);
        CHECK.seedIs("of these bytes", x, 1, 2, 0);
        x.shut();
        CHECK.fails("row() after shut", IllegalStateException.class, x::row);
        x.eject();
        CHECK.fails("row() after eject", IllegalStateException.class, x::row);
        x.open(20000, 0);
        CHECK.fails("row() after a refused open", IllegalStateException.class, x::row);
    }

    public static void main(String[] args) {
        CHECK.sentence("These bytes (perhaps none) are a ROW", P07RowTest::perhapsNone);
        CHECK.sentence("and there are none to come", P07RowTest::noneToCome);
        CHECK.sentence("its number", P07RowTest::itsNumber);
        CHECK.sentence("its number: the largest without skip", P07RowTest::mostRows);
        CHECK.sentence("NONE if it changed nothing because of the HEIGHT", P07RowTest::noneBecauseOfHeight);
        CHECK.sentence("because of the HEIGHT: alone", P07RowTest::numberWhenNothingElseChanges);
        CHECK.sentence("there are none to come: because of the HEIGHT, too", P07RowTest::noneToComeAtTheHeight);
        CHECK.sentence("IllegalStateException if no raster is open", P07RowTest::noRasterIsOpen);
        CHECK.finish();
    }
}
