/** Promise 7: row; its number, the HEIGHT, the blackening, KEPT and OVERRUN. P07UnpackTest has the methods. */
public final class P07RowTest {
    private static final Check CHECK = new Check("P07RowTest");

    private static void withoutRaster() {
        RasterRows x = new RasterRows(64, 8, 75);
        Check.give(x, 1, 2);
        String before = Check.state(x);
        CHECK.fails("row() without a raster", IllegalStateException.class, x::row);
        CHECK.unchanged("row() without a raster", x, before);
        x.open(0, 0);
        CHECK.same("row()", x.row(), 0);
        x.shut();
        CHECK.fails("row() after shut", IllegalStateException.class, x::row);
    }

    private static void numbers() {
        RasterRows x = new RasterRows(64, 8, 75);
        x.open(0, 0);
        for (int i = 0; i < 20; i++) {
            CHECK.same("number of row " + i, Check.giveRow(x, 0, 255), i);
            CHECK.same("ROW behind it", x.look(6), i + 1);
        }
        CHECK.same("as far as the sheet goes", x.look(13), 64);
        CHECK.same("rows below the sheet are kept, too", x.look(10), 20);
    }

    private static void height() {
        RasterRows x = new RasterRows(64, 8, 75);
        x.size(true, 2);
        x.open(0, 0);
        Check.giveRow(x, 0, 1);
        CHECK.same("the last row", Check.giveRow(x, 0, 2), 1);
        x.method(1);
        Check.give(x, 0, 255, 7);
        CHECK.same("a row too many", x.row(), -1);
        CHECK.same("bytes to come behind it", x.look(9), 0);
        CHECK.seedIs("the seed stays", x, 2, 0);
        CHECK.same("ROW stays", x.look(6), 2);
        CHECK.same("METHOD stays", x.look(4), 1);
        CHECK.same("dots stay", x.look(13), 2);
        CHECK.same("rows kept stay", x.look(10), 2);
        CHECK.same("line 2 stays", x.line(2, 0), 0);
    }

    /** Each dot of a row of two bytes at each scale, at places on and over all edges. */
    private static void places() {
        int[] resolutions = {300, 150, 100, 75};
        for (int scale = 1; scale <= 4; scale++) {
            for (int place = -70; place <= 70; place += 7) {
                RasterRows x = new RasterRows(66, 10, 300);
                x.resolution(resolutions[scale - 1]);
                x.open(place, place / 7);
                x.skip(1);
                Check.giveRow(x, 0, 0xa0, 0x01);
                comparePlace(x, scale, place);
            }
        }
    }

    private static void comparePlace(RasterRows x, int scale, int place) {
        int black = 0;
        for (int y = 0; y < 10; y++) {
            for (int dot = 0; dot < 66; dot++) {
                int k = Math.floorDiv(dot - place, scale);
                boolean across = k == 0 || k == 2 || k == 15;
                boolean due = across && Math.floorDiv(y - place / 7, scale) == 1;
                black += due ? 1 : 0;
                CHECK.same("scale " + scale + " place " + place + " black(" + dot + ", " + y + ")",
                        x.black(dot, y) ? 1 : 0, due ? 1 : 0);
            }
        }
        CHECK.same("black dots, scale " + scale + " place " + place, x.look(13), black);
        CHECK.same("rows kept, on the sheet or not", x.look(10), 1);
        CHECK.same("bytes kept, on the sheet or not", x.look(11), 2);
    }

    private static void clippedToWidth() {
        for (int width = 1; width <= 24; width++) {
            RasterRows x = new RasterRows(64, 8, 75);
            x.size(false, width);
            x.open(0, 0);
            Check.giveRow(x, 0, 255, 255, 255);
            CHECK.same("dots of WIDTH " + width, x.line(0, 0), -1L << (64 - width));
            CHECK.same("bytes kept of WIDTH " + width, x.look(11), (width + 7) / 8);
            CHECK.same("the byte stays whole", x.seed((width - 1) / 8), 255);
        }
    }

    private static void kept() {
        RasterRows x = new RasterRows(64, 8, 75);
        x.size(false, 20);
        x.open(0, 0);
        Check.giveRow(x, 0);
        Check.giveRow(x, 0, 0, 0, 0x0f);
        CHECK.same("white rows are not kept", x.look(10), 0);
        CHECK.same("nor their bytes", x.look(11), 0);
        CHECK.same("dots from WIDTH on stay in the bytes", x.seed(2), 0x0f);
        Check.giveRow(x, 0, 0, 1, 0x0f);
        CHECK.same("bytes up to the last with a dot before WIDTH", x.look(11), 2);
        Check.giveRow(x, 0, 0, 0, 0x1f);
        CHECK.same("bytes up to the last", x.look(11), 5);
        CHECK.same("rows kept", x.look(10), 2);
        CHECK.same("black dots", x.look(13), 2);
    }

    private static void blackStaysBlack() {
        RasterRows x = new RasterRows(64, 8, 75);
        x.open(0, 0);
        Check.giveRow(x, 0, 0xf0);
        x.shut();
        x.open(2, 0);
        Check.giveRow(x, 0, 0xc3);
        CHECK.same("both rasters on one line", x.line(0, 0), 0xf0c0000000000000L);
        CHECK.same("dots count once", x.look(13), 6);
        CHECK.same("rows kept", x.look(10), 2);
    }

    /** 102 rows of 640 bytes leave room for 256 bytes. */
    private static RasterRows nearlyFull() {
        RasterRows x = new RasterRows(64, 300, 75);
        x.open(0, 0);
        Check.giveRow(x, 1, 255, 255, 255, 255, 127, 255);
        x.method(3);
        for (int i = 1; i < 102; i++) {
            x.row();
        }
        CHECK.same("rows kept", x.look(10), 102);
        CHECK.same("bytes kept", x.look(11), 65280);
        CHECK.same("not yet OVERRUN", x.look(12), 0);
        return x;
    }

    private static void overrun() {
        RasterRows x = nearlyFull();
        CHECK.same("a row of 257 bytes", Check.giveRow(x, 1, 255, 1, 0, 1), 102);
        CHECK.same("OVERRUN", x.look(12), 1);
        CHECK.same("rows kept", x.look(10), 102);
        CHECK.same("bytes kept", x.look(11), 65280);
        CHECK.same("it blackens nothing", x.line(102, 0), 0);
        CHECK.same("black dots", x.look(13), 102 * 64);
        CHECK.same("ROW grows", x.look(6), 103);
        CHECK.same("it is the seed", x.seed(256), 1);
        Check.giveRow(x, 1, 255, 1);
        CHECK.same("a row for which there is room", x.look(11), 65536);
        CHECK.same("it is drawn", x.line(103, 0), 0x0101010101010101L);
        CHECK.same("OVERRUN stays", x.look(12), 1);
        Check.giveRow(x, 0, 1);
        CHECK.same("no room for a byte", x.look(11), 65536);
        CHECK.same("no such row", x.look(10), 103);
        CHECK.same("a row without room", x.line(104, 0), 0);
    }

    private static void exactlyFull() {
        RasterRows x = nearlyFull();
        Check.giveRow(x, 1, 255, 1);
        CHECK.same("bytes kept", x.look(11), 65536);
        CHECK.same("a full sheet is not OVERRUN", x.look(12), 0);
        Check.giveRow(x, 0, 0);
        CHECK.same("a white row needs no room", x.look(12), 0);
        Check.giveRow(x, 0, 128);
        CHECK.same("a black one does", x.look(12), 1);
    }

    /** Goes beyond the 512 calls that the document speaks of: the limit stands there all the same. */
    private static void rowLimit() {
        RasterRows x = new RasterRows(64, 5100, 75);
        x.open(0, 0);
        Check.giveRow(x, 0, 128);
        x.method(3);
        for (int i = 1; i < 4096; i++) {
            x.row();
        }
        CHECK.same("rows kept", x.look(10), 4096);
        CHECK.same("not yet OVERRUN", x.look(12), 0);
        x.row();
        CHECK.same("rows kept at most", x.look(10), 4096);
        CHECK.same("OVERRUN by rows", x.look(12), 1);
        CHECK.same("black dots", x.look(13), 4096);
    }

    public static void main(String[] args) {
        withoutRaster();
        numbers();
        height();
        places();
        clippedToWidth();
        kept();
        blackStaysBlack();
        overrun();
        exactlyFull();
        rowLimit();
        CHECK.finish();
    }
}
