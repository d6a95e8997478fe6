/** Promise 4: method. */
public final class P04MethodTest {
    private static final Check CHECK = new Check("P04MethodTest");

    private static void all(RasterRows x) {
        for (int m : new int[] {3, 2, 1, 0, 0, 1, 2, 3}) {
            CHECK.yes("method(" + m + ")", x.method(m));
            CHECK.same("look(4)", x.look(4), m);
        }
    }

    private static void set() {
        RasterRows x = new RasterRows(64, 8, 75);
        all(x);
        x.open(0, 0);
        CHECK.same("METHOD after open", x.look(4), 3);
        all(x);
        x.row();
        CHECK.same("METHOD after row", x.look(4), 3);
    }

    /** The same bytes mean something else for each method. */
    private static void eachUnpacks() {
        int[][] due = {{1, 7, 0, 9, 0}, {7, 7, 9, 0, 0}, {7, 0, 0, 0, 0}, {255, 7, 9, 255, 255}};
        for (int m = 0; m <= 3; m++) {
            RasterRows x = new RasterRows(64, 8, 75);
            x.size(false, 40);
            x.open(0, 0);
            Check.giveRow(x, 0, 255, 255, 255, 255, 255);
            Check.giveRow(x, m, 1, 7, 0, 9);
            CHECK.seedIs("METHOD " + m, x, due[m]);
        }
    }

    private static void refused(int wrong) {
        for (int m = 0; m <= 3; m++) {
            RasterRows x = new RasterRows(64, 8, 75);
            x.method(m);
            CHECK.no("method(" + wrong + ")", x.method(wrong));
            CHECK.same("look(4) after method(" + wrong + ")", x.look(4), m);
            x.open(0, 0);
            CHECK.no("method(" + wrong + ") while open", x.method(wrong));
            CHECK.same("look(4) after method(" + wrong + ") while open", x.look(4), m);
        }
    }

    private static void tooSmall() {
        refused(-1);
        refused(-2);
        refused(Integer.MIN_VALUE);
    }

    private static void tooLarge() {
        refused(4);
        refused(5);
        refused(9);
        refused(256);
        refused(Integer.MAX_VALUE);
    }

    public static void main(String[] args) {
        CHECK.sentence("The METHOD: true", P04MethodTest::set);
        CHECK.sentence("The METHOD", P04MethodTest::eachUnpacks);
        CHECK.sentence("false if m is not 0 ..", P04MethodTest::tooSmall);
        CHECK.sentence("false if m is not .. 3", P04MethodTest::tooLarge);
        CHECK.finish();
    }
}
