/** Promise 9: shut. */
public final class P09ShutTest {
    private static final Check CHECK = new Check("P09ShutTest");

    private static void answers(int resolution, int height, int y, int rows, int due) {
        RasterRows x = new RasterRows(64, 8, 300);
        x.resolution(resolution);
        x.size(true, height);
        x.open(0, y);
        for (int i = 0; i < rows; i++) {
            x.row();
        }
        CHECK.same("shut after " + rows + " rows of " + height + " at " + y, x.shut(), due);
    }

    private static void withoutRaster() {
        RasterRows x = new RasterRows(64, 8, 75);
        x.method(2);
        CHECK.fails("shut() without a raster", IllegalStateException.class, x::shut);
        CHECK.same("METHOD stays", x.look(4), 2);
        x.open(0, 0);
        x.shut();
        CHECK.fails("shut() again", IllegalStateException.class, x::shut);
    }

    private static void closes() {
        RasterRows x = new RasterRows(64, 8, 75);
        x.open(0, 3);
        Check.giveRow(x, 3, 0, 255);
        Check.give(x, 1, 2);
        CHECK.same("shut", x.shut(), 4);
        long[] due = {64, 8, 75, 75, 0, 0, -1, -1, -1, 2, 1, 1, 0, 8};
        for (int which = 0; which < due.length; which++) {
            CHECK.same("look(" + which + ") after shut", x.look(which), due[which]);
        }
        CHECK.same("seed(0) after shut", x.seed(0), -1);
        CHECK.same("the sheet stays", x.line(3, 0), 0xff00000000000000L);
    }

    public static void main(String[] args) {
        answers(300, 0, 0, 0, 0);
        answers(300, 0, 7, 3, 10);
        answers(75, 0, 7, 3, 19);
        answers(100, 0, -10000, 1, -9997);
        answers(150, 5, 1, 0, 11);
        answers(150, 5, 1, 2, 11);
        answers(150, 5, 1, 9, 11);
        answers(75, 5119, 10000, 1, 30476);
        withoutRaster();
        closes();
        CHECK.finish();
    }
}
