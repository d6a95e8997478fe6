/** Promise 2: resolution, and the SCALE that follows from it. */
public final class P02ResolutionTest {
    private static final Check CHECK = new Check("P02ResolutionTest");

    private static void scale(int dpi, int r, int due) {
        RasterRows x = new RasterRows(64, 8, dpi);
        CHECK.yes("resolution(" + r + ")", x.resolution(r));
        CHECK.same("look(3) after resolution(" + r + ")", x.look(3), r);
        x.open(0, 0);
        CHECK.same("scale of " + dpi + " / " + r, x.look(8), due);
        Check.giveRow(x, 0, 0x80);
        CHECK.same("black dots of one, " + dpi + " / " + r, x.look(13), due * due);
    }

    private static void wrongOnes() {
        RasterRows x = new RasterRows(64, 8, 300);
        x.resolution(100);
        int[] wrong = {0, -75, 74, 76, 99, 101, 149, 151, 200, 299, 301, 600, Integer.MIN_VALUE, Integer.MAX_VALUE};
        for (int r : wrong) {
            CHECK.no("resolution(" + r + ")", x.resolution(r));
            CHECK.same("look(3) after resolution(" + r + ")", x.look(3), 100);
        }
    }

    private static void whileOpen() {
        RasterRows x = new RasterRows(64, 8, 300);
        x.resolution(150);
        x.open(0, 0);
        String before = Check.state(x);
        CHECK.no("resolution(300) while open", x.resolution(300));
        CHECK.no("resolution(150) while open", x.resolution(150));
        CHECK.unchanged("resolution while open", x, before);
        x.shut();
        CHECK.yes("resolution(300) after shut", x.resolution(300));
        CHECK.same("look(8) without a raster", x.look(8), -1);
        x.open(0, 0);
        CHECK.same("scale of the next raster", x.look(8), 1);
    }

    public static void main(String[] args) {
        int[] dpis = {75, 150, 300};
        int[] resolutions = {75, 100, 150, 300};
        int[][] due = {{1, 1, 1, 1}, {2, 1, 1, 1}, {4, 3, 2, 1}};
        for (int i = 0; i < dpis.length; i++) {
            for (int k = 0; k < resolutions.length; k++) {
                scale(dpis[i], resolutions[k], due[i][k]);
            }
        }
        wrongOnes();
        whileOpen();
        CHECK.finish();
    }
}
