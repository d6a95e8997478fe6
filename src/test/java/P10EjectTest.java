/** Promise 10: eject. */
public final class P10EjectTest {
    private static final Check CHECK = new Check("P10EjectTest");

    private static void openRasterStays() {
        RasterRows x = new RasterRows(200, 20, 300);
        x.size(false, 30);
        x.open(5, 1);
        Check.giveRow(x, 2, 253, 255);
        Check.give(x, 255, 1);
        x.eject();
        long[] due = {200, 20, 300, 75, 2, 1, 1, 4, 4, 2, 0, 0, 0, 0};
        for (int which = 0; which < due.length; which++) {
            CHECK.same("look(" + which + ") after eject", x.look(which), due[which]);
        }
        CHECK.seedIs("the seed stays", x, 255, 255, 255, 255);
        for (int y = 0; y < 20; y++) {
            for (int k = 0; k < 4; k++) {
                CHECK.same("line(" + y + ", " + k + ") after eject", x.line(y, k), 0);
            }
        }
        CHECK.same("the next row", x.row(), 1);
        CHECK.same("it is drawn below", x.line(5, 0), 0x0000000078000000L);
        CHECK.same("and goes on", x.line(5, 1), 0x7800000000000000L);
        CHECK.same("rows kept", x.look(10), 1);
        CHECK.same("bytes kept", x.look(11), 2);
        CHECK.same("black dots", x.look(13), 32);
    }

    private static void notOverrun() {
        RasterRows x = new RasterRows(64, 200, 75);
        x.open(0, 0);
        Check.giveRow(x, 1, 255, 255, 255, 255, 127, 255);
        x.method(3);
        for (int i = 0; i < 110; i++) {
            x.row();
        }
        CHECK.same("OVERRUN", x.look(12), 1);
        x.eject();
        CHECK.same("OVERRUN after eject", x.look(12), 0);
        CHECK.same("rows kept after eject", x.look(10), 0);
        CHECK.same("bytes kept after eject", x.look(11), 0);
        CHECK.same("there is room again", x.row(), 111);
        CHECK.same("bytes kept", x.look(11), 640);
        CHECK.same("line 111", x.line(111, 0), -1);
    }

    private static void withoutRaster() {
        RasterRows x = new RasterRows(64, 8, 75);
        x.eject();
        CHECK.same("no raster is opened", x.look(5), 0);
        x.open(0, 0);
        Check.giveRow(x, 0, 1);
        x.shut();
        x.eject();
        CHECK.no("black after eject", x.black(7, 0));
        CHECK.same("no raster is open", x.look(5), 0);
    }

    public static void main(String[] args) {
        openRasterStays();
        notOverrun();
        withoutRaster();
        CHECK.finish();
    }
}
