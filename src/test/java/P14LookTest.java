/** Promise 14: look. */
public final class P14LookTest {
    private static final Check CHECK = new Check("P14LookTest");

    private static void looks(String when, RasterRows x, int... due) {
        for (int which = 0; which < due.length; which++) {
            CHECK.same(when + ", look(" + which + ")", x.look(which), due[which]);
        }
        for (int which : new int[] {-1, 14, 15, Integer.MIN_VALUE, Integer.MAX_VALUE}) {
            CHECK.same(when + ", look(" + which + ")", x.look(which), -1);
        }
    }

    public static void main(String[] args) {
        RasterRows x = new RasterRows(90, 40, 200);
        looks("at first", x, 90, 40, 150, 75, 0, 0, -1, -1, -1, 0, 0, 0, 0, 0);
        x.resolution(100);
        x.method(2);
        x.size(false, 13);
        x.data(0, 3);
        looks("before open", x, 90, 40, 150, 100, 2, 0, -1, -1, -1, 3, 0, 0, 0, 0);
        x.open(0, 0);
        looks("open", x, 90, 40, 150, 100, 2, 1, 0, 2, 1, 3, 0, 0, 0, 0);
        x.row();
        Check.giveRow(x, 0, 255, 255);
        looks("after two rows", x, 90, 40, 150, 100, 0, 1, 2, 2, 1, 0, 1, 2, 0, 13);
        x.shut();
        looks("after shut", x, 90, 40, 150, 100, 0, 0, -1, -1, -1, 0, 1, 2, 0, 13);
        x.resolution(75);
        x.size(false, 0);
        x.open(80, 39);
        Check.giveRow(x, 0, 255);
        looks("at the corner", x, 90, 40, 150, 75, 0, 1, 1, 640, 2, 0, 2, 3, 0, 23);
        CHECK.finish();
    }
}
