/** Promise 1: a new object. */
public final class P01NewObjectTest {
    private static final Check CHECK = new Check("P01NewObjectTest");

    private static void width(int width, int due) {
        RasterRows x = new RasterRows(width, 3, 75);
        CHECK.same("W of width " + width, x.look(0), due);
        CHECK.same("H of width " + width, x.look(1), 3);
        CHECK.no("the last dot of width " + width, x.black(due - 1, 0));
        CHECK.fails("behind width " + width, IndexOutOfBoundsException.class, () -> Check.bit(x.black(due, 0)));
        x.open(0, 0);
        Check.giveRow(x, 1, 255, 255, 255, 255, 127, 255);
        CHECK.same("a full line of width " + width, x.look(13), due);
    }

    private static void height(int height, int due) {
        RasterRows x = new RasterRows(3, height, 75);
        CHECK.same("W of height " + height, x.look(0), 3);
        CHECK.same("H of height " + height, x.look(1), due);
        CHECK.no("the last dot of height " + height, x.black(0, due - 1));
        CHECK.fails("below height " + height, IndexOutOfBoundsException.class, () -> Check.bit(x.black(0, due)));
        x.open(0, due - 1);
        Check.giveRow(x, 0, 255);
        x.row();
        CHECK.same("the last line of height " + height, x.look(13), 3);
    }

    private static void dpi(int dpi, int due) {
        CHECK.same("DPI of dpi " + dpi, new RasterRows(3, 3, dpi).look(2), due);
    }

    private static void widths() {
        for (int n : new int[] {1, 2, 63, 64, 65, 128, 5099, 5100}) {
            width(n, n);
        }
    }

    private static void widthTooSmall() {
        for (int n : new int[] {0, -1, -5100, Integer.MIN_VALUE}) {
            width(n, 1);
        }
    }

    private static void widthTooLarge() {
        for (int n : new int[] {5101, 10000, Integer.MAX_VALUE}) {
            width(n, 5100);
        }
    }

    private static void heights() {
        for (int n : new int[] {1, 2, 5099, 5100}) {
            height(n, n);
        }
    }

    private static void heightTooSmall() {
        for (int n : new int[] {0, -1, -5100, Integer.MIN_VALUE}) {
            height(n, 1);
        }
    }

    private static void heightTooLarge() {
        for (int n : new int[] {5101, 10000, Integer.MAX_VALUE}) {
            height(n, 5100);
        }
    }

    private static void dpi300() {
        dpi(300, 300);
        dpi(301, 300);
        dpi(600, 300);
        dpi(Integer.MAX_VALUE, 300);
    }

    private static void dpi150() {
        dpi(299, 150);
        dpi(151, 150);
        dpi(150, 150);
    }

    private static void dpi75() {
        dpi(149, 75);
        dpi(76, 75);
        dpi(75, 75);
        dpi(74, 75);
        dpi(1, 75);
        dpi(0, 75);
        dpi(-1, 75);
        dpi(-300, 75);
        dpi(Integer.MIN_VALUE, 75);
    }

    private static void firstState() {
        RasterRows x = new RasterRows(100, 50, 300);
        CHECK.looks("at first", x, 100, 50, 300, 75, 0, 0, -1, -1, -1, 0, 0, 0, 0, 0);
        CHECK.same("at first seed(0)", x.seed(0), -1);
    }

    private static void apart() {
        RasterRows x = new RasterRows(10, 5, 75);
        RasterRows y = new RasterRows(10, 5, 75);
        x.resolution(300);
        x.method(2);
        x.size(false, 9);
        x.open(0, 0);
        Check.giveRow(x, 0, 255);
        Check.give(x, 1);
        CHECK.looks("another object", y, 10, 5, 75, 75, 0, 0, -1, -1, -1, 0, 0, 0, 0, 0);
        y.open(0, 0);
        CHECK.same("another object's LENGTH", y.look(7), 640);
    }

    public static void main(String[] args) {
        CHECK.sentence("NONE = -1", () -> CHECK.same("NONE", RasterRows.NONE, -1));
        CHECK.sentence("W is width", P01NewObjectTest::widths);
        CHECK.sentence("W is width, but 1 ..", P01NewObjectTest::widthTooSmall);
        CHECK.sentence("W is width, but .. 5100", P01NewObjectTest::widthTooLarge);
        CHECK.sentence("H is height", P01NewObjectTest::heights);
        CHECK.sentence("H is height, but 1 ..", P01NewObjectTest::heightTooSmall);
        CHECK.sentence("H is height, but .. 5100", P01NewObjectTest::heightTooLarge);
        CHECK.sentence("DPI is 300 if dpi is 300 or more", P01NewObjectTest::dpi300);
        CHECK.sentence("else 150 if it is 150 or more", P01NewObjectTest::dpi150);
        CHECK.sentence("else 75", P01NewObjectTest::dpi75);
        CHECK.sentence("A new object", P01NewObjectTest::firstState);
        CHECK.sentence("A new object: has nothing of another", P01NewObjectTest::apart);
        CHECK.finish();
    }
}
