/** Promise 1: a new object. */
public final class P01NewObjectTest {
    private static final Check CHECK = new Check("P01NewObjectTest");

    private static void made(int width, int height, int dpi, int w, int h, int d) {
        RasterRows x = new RasterRows(width, height, dpi);
        String name = "new RasterRows(" + width + ", " + height + ", " + dpi + ")";
        CHECK.same(name + " W", x.look(0), w);
        CHECK.same(name + " H", x.look(1), h);
        CHECK.same(name + " DPI", x.look(2), d);
    }

    private static void firstState() {
        RasterRows x = new RasterRows(100, 50, 300);
        long[] due = {100, 50, 300, 75, 0, 0, -1, -1, -1, 0, 0, 0, 0, 0};
        for (int which = 0; which < due.length; which++) {
            CHECK.same("at first look(" + which + ")", x.look(which), due[which]);
        }
        for (int y = 0; y < 50; y++) {
            CHECK.same("at first line(" + y + ", 0)", x.line(y, 0), 0);
            CHECK.same("at first line(" + y + ", 1)", x.line(y, 1), 0);
        }
        CHECK.no("at first black(99, 49)", x.black(99, 49));
    }

    public static void main(String[] args) {
        CHECK.same("NONE", RasterRows.NONE, -1);
        made(100, 200, 300, 100, 200, 300);
        made(1, 5100, 301, 1, 5100, 300);
        made(5100, 1, 299, 5100, 1, 150);
        made(5101, 0, 150, 5100, 1, 150);
        made(0, 5101, 149, 1, 5100, 75);
        made(-1, -1, 75, 1, 1, 75);
        made(2, 5099, 0, 2, 5099, 75);
        made(Integer.MIN_VALUE, Integer.MAX_VALUE, Integer.MIN_VALUE, 1, 5100, 75);
        made(Integer.MAX_VALUE, Integer.MIN_VALUE, Integer.MAX_VALUE, 5100, 1, 300);
        firstState();
        CHECK.finish();
    }
}
