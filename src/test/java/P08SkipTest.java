/** Promise 8: skip. */
public final class P08SkipTest {
    private static final Check CHECK = new Check("P08SkipTest");

    private static RasterRows opened(int height) {
        RasterRows x = new RasterRows(64, 8, 150);
        x.size(true, height);
        x.open(0, 0);
        return x;
    }

    private static void rowGrows() {
        RasterRows x = opened(0);
        CHECK.same("skip(1)", x.skip(1), 1);
        CHECK.same("skip(2)", x.skip(2), 3);
        CHECK.same("look(6)", x.look(6), 3);
        CHECK.same("the row behind", Check.giveRow(x, 0, 4), 3);
        CHECK.same("it is drawn there", x.line(6, 0), 0x0030000000000000L);
        CHECK.same("and there", x.line(7, 0), 0x0030000000000000L);
        CHECK.same("skipped lines are white", x.line(5, 0), 0);
        CHECK.same("skip(1)", x.skip(1), 5);
    }

    private static void byNothing() {
        RasterRows x = opened(0);
        CHECK.same("skip(0) at first", x.skip(0), 0);
        x.row();
        CHECK.same("skip(0) behind a row", x.skip(0), 1);
        CHECK.same("the number of the next row", x.row(), 1);
    }

    private static void byTheMost() {
        RasterRows x = opened(0);
        CHECK.same("skip(10000)", x.skip(10000), 10000);
        CHECK.same("the number of the next row", x.row(), 10000);
        CHECK.same("skip(9999)", x.skip(9999), 20000);
    }

    /** 510 calls between open and shut. */
    private static void asFarAsCallsGo() {
        RasterRows x = new RasterRows(64, 8, 300);
        x.open(0, 10000);
        for (int i = 1; i <= 510; i++) {
            CHECK.same("skip " + i, x.skip(10000), 10000 * i);
        }
        CHECK.same("shut", x.shut(), 10000 + 4 * 5100000);
    }

    private static void atMostToTheHeight() {
        RasterRows x = opened(5);
        CHECK.same("skip(4) of 5", x.skip(4), 4);
        CHECK.same("skip(1) to 5", x.skip(1), 5);
        CHECK.same("skip(0) at 5", x.skip(0), 5);
        CHECK.same("skip(1) at 5", x.skip(1), 5);
        CHECK.same("skip(10000) at 5", x.skip(10000), 5);
        CHECK.same("look(6)", x.look(6), 5);
        CHECK.same("no more rows", x.row(), -1);
        RasterRows y = opened(5);
        CHECK.same("skip(5) of 5", y.skip(5), 5);
        RasterRows z = opened(5);
        CHECK.same("skip(6) of 5", z.skip(6), 5);
        RasterRows one = opened(1);
        CHECK.same("skip(10000) of 1", one.skip(10000), 1);
        RasterRows most = opened(5119);
        CHECK.same("skip(5118) of 5119", most.skip(5118), 5118);
        CHECK.same("skip(2) of 5119", most.skip(2), 5119);
    }

    private static void lastRowBeforeTheHeight() {
        RasterRows x = opened(5);
        x.skip(4);
        CHECK.same("row 4 of 5", Check.giveRow(x, 0, 6), 4);
        CHECK.same("no row behind it", Check.giveRow(x, 0, 6), -1);
    }

    private static void seedIsCleared(String what, RasterRows x, int n) {
        Check.giveRow(x, 1, 255, 255, 255, 255, 127, 255);
        x.skip(n);
        for (int i = 0; i < 640; i++) {
            CHECK.same(what + ", seed(" + i + ")", x.seed(i), 0);
        }
        CHECK.same(what + ", no byte behind", x.seed(640), -1);
    }

    private static void allBytesOfTheSeed() {
        seedIsCleared("skip(1)", opened(0), 1);
        seedIsCleared("skip(0)", opened(0), 0);
        seedIsCleared("skip(10000)", opened(0), 10000);
        seedIsCleared("skip(3) to the HEIGHT", opened(4), 3);
        seedIsCleared("skip(3) at the HEIGHT", opened(1), 3);
        RasterRows x = opened(0);
        Check.giveRow(x, 0, 255);
        x.skip(1);
        Check.giveRow(x, 3, 1, 5);
        CHECK.seedIs("changes of the cleared SEED", x, 0, 5, 0);
    }

    private static void nothingElse() {
        RasterRows x = opened(0);
        Check.giveRow(x, 2, 1, 255, 255);
        Check.give(x, 4, 5, 6);
        x.skip(2);
        CHECK.looks("behind skip", x, 64, 8, 150, 75, 2, 1, 3, 640, 2, 3, 1, 2, 0, 64);
    }

    private static void wrongNumber() {
        RasterRows x = opened(0);
        Check.giveRow(x, 0, 1, 2, 3);
        for (int n : new int[] {-1, -10000, 10001, Integer.MIN_VALUE, Integer.MAX_VALUE}) {
            CHECK.fails("skip(" + n + ")", IllegalArgumentException.class, () -> x.skip(n));
            CHECK.same("ROW behind it", x.look(6), 1);
            CHECK.seedIs("the SEED behind it", x, 1, 2, 3);
        }
    }

    private static void noRasterIsOpen() {
        RasterRows x = new RasterRows(64, 8, 75);
        for (int n : new int[] {0, 1, 10000}) {
            CHECK.fails("skip(" + n + ") at first", IllegalStateException.class, () -> x.skip(n));
        }
        x.open(0, 0);
        CHECK.same("skip(2) in a raster", x.skip(2), 2);
        x.shut();
        for (int n : new int[] {0, 1, 10000}) {
            CHECK.fails("skip(" + n + ") after shut", IllegalStateException.class, () -> x.skip(n));
        }
    }

    private static void bothAreWrong() {
        RasterRows x = new RasterRows(64, 8, 75);
        for (int n : new int[] {-1, 10001, Integer.MIN_VALUE, Integer.MAX_VALUE}) {
            CHECK.fails("skip(" + n + ") without a raster", IllegalArgumentException.class, () -> x.skip(n));
        }
    }

    public static void main(String[] args) {
        CHECK.sentence("ROW grows by n .. : ROW", P08SkipTest::rowGrows);
        CHECK.sentence("ROW grows by n: 0", P08SkipTest::byNothing);
        CHECK.sentence("ROW grows by n: 10000", P08SkipTest::byTheMost);
        CHECK.sentence("ROW grows by n: at most 512 calls", P08SkipTest::asFarAsCallsGo);
        CHECK.sentence("but at most to the HEIGHT, if there is one", P08SkipTest::atMostToTheHeight);
        CHECK.sentence("but at most to the HEIGHT: one before it", P08SkipTest::lastRowBeforeTheHeight);
        CHECK.sentence("all bytes of the SEED are 0", P08SkipTest::allBytesOfTheSeed);
        CHECK.sentence("ROW grows, the SEED is 0: and nothing else", P08SkipTest::nothingElse);
        CHECK.sentence("IllegalArgumentException if n is not 0 .. 10000", P08SkipTest::wrongNumber);
        CHECK.sentence("IllegalStateException if no raster is open", P08SkipTest::noRasterIsOpen);
        CHECK.sentence("Of several exceptions the first one listed is thrown.", P08SkipTest::bothAreWrong);
        CHECK.finish();
    }
}
