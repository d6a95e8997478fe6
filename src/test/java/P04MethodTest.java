/** Promise 4: method. */
public final class P04MethodTest {
    private static final Check CHECK = new Check("P04MethodTest");

    private static void setsAndRefuses(RasterRows x) {
        for (int m = 0; m <= 3; m++) {
            CHECK.yes("method(" + m + ")", x.method(m));
            CHECK.same("look(4)", x.look(4), m);
            for (int wrong : new int[] {-1, 4, 5, Integer.MIN_VALUE, Integer.MAX_VALUE}) {
                CHECK.no("method(" + wrong + ")", x.method(wrong));
                CHECK.same("look(4) after method(" + wrong + ")", x.look(4), m);
            }
        }
    }

    /** The same bytes mean something else for each method. */
    private static void eachUnpacks() {
        int[][] due = {{1, 7, 0, 9, 0}, {7, 7, 9, 0, 0}, {7, 0, 0, 0, 0}, {255, 7, 9, 255, 255}};
        for (int m = 0; m <= 3; m++) {
            RasterRows x = new RasterRows(64, 8, 75);
            x.size(false, 40);
            x.open(0, 0);
            Check.giveRow(x, 0, 255, 255, 255, 255, 255);
            Check.giveRow(x, m, 1, 7, 0, 9);
            CHECK.seedIs("method " + m, x, due[m]);
        }
    }

    public static void main(String[] args) {
        RasterRows x = new RasterRows(64, 8, 75);
        CHECK.same("METHOD at first", x.look(4), 0);
        setsAndRefuses(x);
        x.open(0, 0);
        CHECK.same("METHOD after open", x.look(4), 3);
        setsAndRefuses(x);
        eachUnpacks();
        CHECK.finish();
    }
}
