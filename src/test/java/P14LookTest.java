/** Promise 14: look. */
public final class P14LookTest {
    private static final Check CHECK = new Check("P14LookTest");

    private static RasterRows used() {
        RasterRows x = new RasterRows(90, 40, 200);
        x.resolution(100);
        x.method(2);
        x.size(false, 13);
        x.data(0, 3);
        return x;
    }

    private static void atFirst() {
        CHECK.looks("at first", new RasterRows(90, 40, 200), 90, 40, 150, 75, 0, 0, -1, -1, -1, 0, 0, 0, 0, 0);
    }

    private static void withoutRaster() {
        RasterRows x = used();
        CHECK.looks("before open", x, 90, 40, 150, 100, 2, 0, -1, -1, -1, 3, 0, 0, 0, 0);
        x.open(0, 0);
        x.row();
        Check.giveRow(x, 0, 255, 255);
        x.shut();
        CHECK.looks("after shut", x, 90, 40, 150, 100, 0, 0, -1, -1, -1, 0, 1, 2, 0, 13);
    }

    private static void withRaster() {
        RasterRows x = used();
        x.open(0, 0);
        CHECK.looks("open", x, 90, 40, 150, 100, 2, 1, 0, 2, 1, 3, 0, 0, 0, 0);
        x.row();
        CHECK.looks("behind a row", x, 90, 40, 150, 100, 2, 1, 1, 2, 1, 0, 0, 0, 0, 0);
        Check.giveRow(x, 0, 255, 255);
        CHECK.looks("behind two rows", x, 90, 40, 150, 100, 0, 1, 2, 2, 1, 0, 1, 2, 0, 13);
        x.shut();
        x.resolution(75);
        x.size(false, 0);
        x.open(80, 39);
        Check.giveRow(x, 0, 255);
        CHECK.looks("at the corner", x, 90, 40, 150, 75, 0, 1, 1, 640, 2, 0, 2, 3, 0, 23);
    }

    private static void whenOverrun() {
        RasterRows x = new RasterRows(64, 2, 75);
        x.open(0, 0);
        Check.giveRow(x, 1, 255, 255, 255, 255, 127, 255);
        x.method(3);
        for (int i = 1; i < 102; i++) {
            x.row();
        }
        CHECK.looks("before", x, 64, 2, 75, 75, 3, 1, 102, 640, 1, 0, 102, 65280, 0, 128);
        x.row();
        CHECK.looks("OVERRUN", x, 64, 2, 75, 75, 3, 1, 103, 640, 1, 0, 102, 65280, 1, 128);
    }

    /** The largest sheet: 5100 dots across are black in as many lines as 512 calls reach. */
    private static void mostBlackDots() {
        RasterRows x = new RasterRows(5100, 5100, 300);
        x.open(0, 0);
        Check.giveRow(x, 1, 255, 255, 255, 255, 127, 255);
        x.method(3);
        for (int i = 1; i < 102; i++) {
            x.row();
        }
        CHECK.same("black dots", x.look(13), 5100 * 4 * 102);
    }

    private static void anyOther(String when, RasterRows x) {
        for (int which : new int[] {-1, -2, 14, 15, 16, 256, 1 << 16}) {
            CHECK.same(when + ", look(" + which + ")", x.look(which), -1);
        }
        for (int which : Check.FAR) {
            CHECK.same(when + ", look(" + which + ")", x.look(which), -1);
        }
    }

    private static void noneForOthers() {
        RasterRows x = used();
        anyOther("before open", x);
        x.open(0, 0);
        anyOther("open", x);
        Check.giveRow(x, 0, 255);
        anyOther("behind a row", x);
    }

    public static void main(String[] args) {
        CHECK.sentence("which 0: W, .. 13: at first", P14LookTest::atFirst);
        CHECK.sentence("(6 to 8 NONE without one)", P14LookTest::withoutRaster);
        CHECK.sentence("5: 1 if a raster is open, 6: its ROW, 7: LENGTH, 8: SCALE", P14LookTest::withRaster);
        CHECK.sentence("12: 1 if the sheet is OVERRUN", P14LookTest::whenOverrun);
        CHECK.sentence("13: black dots of the sheet: many", P14LookTest::mostBlackDots);
        CHECK.sentence("NONE for any other which.", P14LookTest::noneForOthers);
        CHECK.finish();
    }
}
