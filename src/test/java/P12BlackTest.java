/** Promise 12: black. */
public final class P12BlackTest {
    private static final Check CHECK = new Check("P12BlackTest");

    private static void eachDot() {
        RasterRows x = new RasterRows(70, 3, 75);
        x.open(1, 1);
        x.data(0x8000000000000003L, 8);
        x.data(0x48, 1);
        x.row();
        for (int y = 0; y < 3; y++) {
            for (int dot = 0; dot < 70; dot++) {
                boolean due = y == 1 && (dot == 1 || dot == 63 || dot == 64 || dot == 66 || dot == 69);
                CHECK.same("black(" + dot + ", " + y + ")", x.black(dot, y) ? 1 : 0, due ? 1 : 0);
            }
        }
    }

    private static void outside() {
        RasterRows x = new RasterRows(70, 3, 75);
        int[] wrongAcross = {-1, 70, 71, 127, 128, Integer.MIN_VALUE, Integer.MAX_VALUE};
        int[] wrongDown = {-1, 3, 4, Integer.MIN_VALUE, Integer.MAX_VALUE};
        for (int dot : wrongAcross) {
            CHECK.fails("black(" + dot + ", 0)", IndexOutOfBoundsException.class, () -> x.black(dot, 0));
        }
        for (int y : wrongDown) {
            CHECK.fails("black(0, " + y + ")", IndexOutOfBoundsException.class, () -> x.black(0, y));
            CHECK.fails("black(-1, " + y + ")", IndexOutOfBoundsException.class, () -> x.black(-1, y));
        }
        CHECK.no("black(0, 0)", x.black(0, 0));
        CHECK.no("black(69, 2)", x.black(69, 2));
    }

    public static void main(String[] args) {
        eachDot();
        outside();
        CHECK.finish();
    }
}
