/** Promise 9: shut. */
public final class P09ShutTest {
    private static final Check CHECK = new Check("P09ShutTest");

    private static void answers(int resolution, int height, int y, int rows, int due) {
        RasterRows x = new RasterRows(64, 8, 300);
        x.resolution(resolution);
        x.size(true, height);
        x.open(0, y);
        for (int i = 0; i < rows; i++) {
            x.row();
        }
        CHECK.same("shut after " + rows + " rows of " + height + " at " + y, x.shut(), due);
    }

    private static void openNoMore() {
        RasterRows x = new RasterRows(64, 8, 75);
        x.open(0, 3);
        Check.giveRow(x, 0, 255);
        x.shut();
        CHECK.same("look(5)", x.look(5), 0);
        CHECK.same("look(6)", x.look(6), -1);
        CHECK.same("look(7)", x.look(7), -1);
        CHECK.same("look(8)", x.look(8), -1);
        CHECK.same("seed(0)", x.seed(0), -1);
        CHECK.fails("row()", IllegalStateException.class, x::row);
        CHECK.yes("resolution(100)", x.resolution(100));
        CHECK.yes("open(0, 0)", x.open(0, 0));
    }

    private static void withHeight() {
        answers(300, 5, 0, 0, 5);
        answers(300, 5, 0, 4, 5);
        answers(300, 5, 0, 5, 5);
        answers(300, 5, 0, 6, 5);
        answers(300, 1, 0, 0, 1);
        answers(300, 5119, 0, 1, 5119);
    }

    private static void withoutHeight() {
        answers(300, 0, 0, 0, 0);
        answers(300, 0, 0, 1, 1);
        answers(300, 0, 0, 9, 9);
        answers(300, 0, 7, 3, 10);
    }

    private static void methodIsZero() {
        for (int m = 0; m <= 3; m++) {
            RasterRows x = new RasterRows(64, 8, 75);
            x.method(m);
            x.open(0, 0);
            x.shut();
            CHECK.same("METHOD " + m + " behind shut", x.look(4), 0);
            x.open(0, 0);
            Check.give(x, 1, 7);
            x.row();
            CHECK.seedIs("the next row is as its bytes are", x, 1, 7, 0);
        }
    }

    private static void placeAndScale() {
        answers(75, 0, 7, 3, 19);
        answers(100, 0, 7, 3, 16);
        answers(150, 0, 7, 3, 13);
        answers(300, 0, 7, 3, 10);
        answers(150, 5, 1, 2, 11);
        answers(100, 0, -5, 1, -2);
    }

    private static void farthestPlaces() {
        answers(100, 0, -10000, 0, -10000);
        answers(100, 0, -10000, 1, -9997);
        answers(75, 5119, 10000, 1, 30476);
        answers(75, 2500, -10000, 1, 0);
    }

    private static void nothingElse() {
        RasterRows x = new RasterRows(64, 8, 75);
        x.size(false, 9);
        x.open(0, 3);
        Check.giveRow(x, 3, 0, 255);
        Check.give(x, 1, 2);
        CHECK.same("shut", x.shut(), 4);
        CHECK.looks("behind shut", x, 64, 8, 75, 75, 0, 0, -1, -1, -1, 2, 1, 1, 0, 8);
        CHECK.same("the sheet stays", x.line(3, 0), 0xff00000000000000L);
        x.open(0, 0);
        CHECK.same("the size stays", x.look(7), 2);
        x.row();
        CHECK.seedIs("bytes to come stay", x, 1, 2);
    }

    private static void noRasterIsOpen() {
        RasterRows x = new RasterRows(64, 8, 75);
        x.method(2);
        CHECK.fails("shut() at first", IllegalStateException.class, x::shut);
        CHECK.same("METHOD stays", x.look(4), 2);
        x.open(0, 0);
        x.shut();
        x.method(3);
        CHECK.fails("shut() again", IllegalStateException.class, x::shut);
        CHECK.same("METHOD stays", x.look(4), 3);
    }

    public static void main(String[] args) {
        CHECK.sentence("The raster is open no more", P09ShutTest::openNoMore);
        CHECK.sentence("ROW is the HEIGHT, if there is one", P09ShutTest::withHeight);
        CHECK.sentence("ROW is the HEIGHT, if there is [none]", P09ShutTest::withoutHeight);
        CHECK.sentence("the METHOD is 0", P09ShutTest::methodIsZero);
        CHECK.sentence("Y + SCALE * ROW", P09ShutTest::placeAndScale);
        CHECK.sentence("Y + SCALE * ROW: the farthest places", P09ShutTest::farthestPlaces);
        CHECK.sentence("open no more, METHOD 0: and nothing else", P09ShutTest::nothingElse);
        CHECK.sentence("IllegalStateException if no raster is open", P09ShutTest::noRasterIsOpen);
        CHECK.finish();
    }
}
