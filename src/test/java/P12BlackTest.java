/** Promise 12: black. */
public final class P12BlackTest {
    private static final Check CHECK = new Check("P12BlackTest");

    private static void eachDot() {
        RasterRows x = new RasterRows(70, 3, 75);
        x.open(1, 1);
        x.data(0x8000000000000003L, 8);
        x.data(0x48, 1);
        x.row();
        for (int y = 0; y < 3; y++) {
            for (int dot = 0; dot < 70; dot++) {
                boolean due = y == 1 && (dot == 1 || dot == 63 || dot == 64 || dot == 66 || dot == 69);
                CHECK.same("black(" + dot + ", " + y + ")", Check.bit(x.black(dot, y)), Check.bit(due));
            }
        }
    }

    private static void corners() {
        for (int[] side : new int[][] {{1, 1}, {70, 3}, {64, 2}, {5100, 2}}) {
            RasterRows x = new RasterRows(side[0], side[1], 75);
            int right = side[0] - 1;
            int low = side[1] - 1;
            CHECK.no("white, upper left", x.black(0, 0));
            CHECK.no("white, lower right", x.black(right, low));
            x.open(0, 0);
            Check.giveRow(x, 1, 255, 255, 255, 255, 127, 255);
            x.method(3);
            x.row();
            x.row();
            CHECK.yes("upper left", x.black(0, 0));
            CHECK.yes("upper right", x.black(right, 0));
            CHECK.yes("lower left", x.black(0, low));
            CHECK.yes("lower right", x.black(right, low));
        }
    }

    private static void outside(RasterRows x, int dot, int y) {
        CHECK.fails("black(" + dot + ", " + y + ")", IndexOutOfBoundsException.class, () -> Check.bit(x.black(dot, y)));
    }

    private static RasterRows drawn() {
        RasterRows x = new RasterRows(70, 3, 75);
        x.open(0, 0);
        Check.giveRow(x, 1, 255, 255);
        return x;
    }

    private static void leftAndRight() {
        for (RasterRows x : new RasterRows[] {drawn(), new RasterRows(70, 3, 75)}) {
            for (int dot : new int[] {-1, -2, 70, 71, 127, 128, 5100, Integer.MIN_VALUE, Integer.MAX_VALUE}) {
                outside(x, dot, 0);
                outside(x, dot, 2);
            }
        }
    }

    private static void aboveAndBelow() {
        for (RasterRows x : new RasterRows[] {drawn(), new RasterRows(70, 3, 75)}) {
            for (int y : new int[] {-1, -2, 3, 4, 5100, Integer.MIN_VALUE, Integer.MAX_VALUE}) {
                outside(x, 0, y);
                outside(x, 69, y);
            }
        }
    }

    private static void bothOutside() {
        for (int dot : new int[] {-1, 70, Integer.MIN_VALUE, Integer.MAX_VALUE}) {
            for (int y : new int[] {-1, 3, Integer.MIN_VALUE, Integer.MAX_VALUE}) {
                outside(drawn(), dot, y);
            }
        }
    }

    public static void main(String[] args) {
        CHECK.sentence("Whether a dot is black.", P12BlackTest::eachDot);
        CHECK.sentence("Whether a dot is black: the corners", P12BlackTest::corners);
        CHECK.sentence("IndexOutOfBoundsException if it is none of the sheet's: x", P12BlackTest::leftAndRight);
        CHECK.sentence("IndexOutOfBoundsException if it is none of the sheet's: y", P12BlackTest::aboveAndBelow);
        CHECK.sentence("IndexOutOfBoundsException if it is none of the sheet's: both", P12BlackTest::bothOutside);
        CHECK.finish();
    }
}
