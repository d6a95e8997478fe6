/** Promise 3: size. */
public final class P03SizeTest {
    private static final Check CHECK = new Check("P03SizeTest");

    private static void lengths() {
        int[][] due = {{1, 1}, {7, 1}, {8, 1}, {9, 2}, {16, 2}, {17, 3}, {5112, 639}, {5113, 640}, {5119, 640}, {0, 640}};
        RasterRows x = new RasterRows(64, 8, 75);
        for (int[] pair : due) {
            CHECK.yes("size(false, " + pair[0] + ")", x.size(false, pair[0]));
            x.open(0, 0);
            CHECK.same("LENGTH for WIDTH " + pair[0], x.look(7), pair[1]);
            CHECK.same("last byte for WIDTH " + pair[0], x.seed(pair[1] - 1), 0);
            CHECK.same("no byte behind WIDTH " + pair[0], x.seed(pair[1]), -1);
            x.shut();
        }
    }

    private static void heights() {
        RasterRows x = new RasterRows(64, 8, 75);
        for (int n : new int[] {1, 2, 5119}) {
            CHECK.yes("size(true, " + n + ")", x.size(true, n));
            x.open(0, 0);
            CHECK.same("skip past HEIGHT " + n, x.skip(10000), n);
            x.shut();
        }
        CHECK.yes("size(true, 0)", x.size(true, 0));
        x.open(0, 0);
        CHECK.same("skip without HEIGHT", x.skip(10000), 10000);
    }

    private static void wrongOnes() {
        RasterRows x = new RasterRows(64, 8, 75);
        x.size(false, 12);
        x.size(true, 3);
        for (int n : new int[] {-1, 5120, 5121, Integer.MIN_VALUE, Integer.MAX_VALUE}) {
            CHECK.no("size(false, " + n + ")", x.size(false, n));
            CHECK.no("size(true, " + n + ")", x.size(true, n));
        }
        x.open(0, 0);
        CHECK.same("LENGTH after wrong sizes", x.look(7), 2);
        CHECK.same("HEIGHT after wrong sizes", x.skip(10000), 3);
    }

    private static void nextRaster() {
        RasterRows x = new RasterRows(64, 8, 75);
        x.size(false, 12);
        x.size(true, 2);
        x.open(0, 0);
        CHECK.yes("size(false, 20) while open", x.size(false, 20));
        CHECK.yes("size(true, 1) while open", x.size(true, 1));
        CHECK.same("LENGTH of the open raster", x.look(7), 2);
        Check.giveRow(x, 0, 255, 255, 255);
        CHECK.same("dots of the open raster", x.look(13), 12);
        CHECK.same("HEIGHT of the open raster", x.skip(9), 2);
        x.shut();
        for (int i = 0; i < 2; i++) {
            x.eject();
            x.open(0, 0);
            CHECK.same("LENGTH of later rasters", x.look(7), 3);
            Check.giveRow(x, 0, 255, 255, 255);
            CHECK.same("dots of later rasters", x.look(13), 20);
            CHECK.same("HEIGHT of later rasters", x.skip(9), 1);
            x.shut();
        }
    }

    public static void main(String[] args) {
        lengths();
        heights();
        wrongOnes();
        nextRaster();
        CHECK.finish();
    }
}
