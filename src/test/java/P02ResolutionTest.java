/** Promise 2: resolution. TermsSheetTest has the SCALE that follows from it. */
public final class P02ResolutionTest {
    private static final Check CHECK = new Check("P02ResolutionTest");

    private static void fourOfThem() {
        for (int dpi : new int[] {75, 150, 300}) {
            RasterRows x = new RasterRows(64, 8, dpi);
            for (int r : new int[] {300, 100, 150, 75, 75}) {
                CHECK.yes("resolution(" + r + ")", x.resolution(r));
                CHECK.same("look(3)", x.look(3), r);
            }
        }
    }

    private static void noneOfTheFour() {
        RasterRows x = new RasterRows(64, 8, 300);
        x.resolution(100);
        int[] wrong = {0, 1, -75, -100, -300, 74, 76, 99, 101, 149, 151, 200, 299, 301, 600, 75 + 256, 300 + (1 << 16)};
        for (int r : wrong) {
            CHECK.no("resolution(" + r + ")", x.resolution(r));
            CHECK.same("look(3) after resolution(" + r + ")", x.look(3), 100);
        }
        for (int r : Check.FAR) {
            CHECK.no("resolution(" + r + ")", x.resolution(r));
            CHECK.same("look(3) after resolution(" + r + ")", x.look(3), 100);
        }
    }

    private static void whileOpen() {
        RasterRows x = new RasterRows(64, 8, 300);
        x.resolution(150);
        x.open(0, 0);
        for (int r : new int[] {75, 100, 150, 300}) {
            CHECK.no("resolution(" + r + ") while open", x.resolution(r));
            CHECK.same("look(3) while open", x.look(3), 150);
            CHECK.same("SCALE while open", x.look(8), 2);
        }
    }

    private static void afterShut() {
        RasterRows x = new RasterRows(64, 8, 300);
        x.resolution(150);
        x.open(0, 0);
        x.shut();
        CHECK.same("it stays", x.look(3), 150);
        CHECK.yes("resolution(300) after shut", x.resolution(300));
        CHECK.same("look(3) after shut", x.look(3), 300);
        x.eject();
        CHECK.same("look(3) after eject", x.look(3), 300);
        x.open(0, 0);
        CHECK.same("SCALE of the next raster", x.look(8), 1);
    }

    public static void main(String[] args) {
        CHECK.sentence("The RESOLUTION: true", P02ResolutionTest::fourOfThem);
        CHECK.sentence("false if it is none of the four", P02ResolutionTest::noneOfTheFour);
        CHECK.sentence("or a raster is open", P02ResolutionTest::whileOpen);
        CHECK.sentence("or a raster is open: no more", P02ResolutionTest::afterShut);
        CHECK.finish();
    }
}
