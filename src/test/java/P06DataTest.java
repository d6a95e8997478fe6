/** Promise 6: data. */
public final class P06DataTest {
    private static final Check CHECK = new Check("P06DataTest");

    private static RasterRows rowOf(long part, int n) {
        RasterRows x = new RasterRows(64, 8, 75);
        x.size(false, 72);
        x.open(0, 0);
        CHECK.yes("data(" + part + ", " + n + ")", x.data(part, n));
        CHECK.same("bytes to come", x.look(9), n);
        x.row();
        return x;
    }

    private static void lowestBytes() {
        for (int n = 1; n <= 8; n++) {
            RasterRows x = rowOf(0x8182838485868788L, n);
            for (int i = 0; i < 9; i++) {
                CHECK.same("byte " + i + " of " + n, x.seed(i), i < n ? 0x88 - (n - 1) + i : 0);
            }
        }
    }

    private static void partsAtTheEdge() {
        for (int n = 1; n <= 8; n++) {
            RasterRows minus = rowOf(-1, n);
            RasterRows zero = rowOf(0, n);
            RasterRows least = rowOf(Long.MIN_VALUE, n);
            RasterRows most = rowOf(Long.MAX_VALUE, n);
            for (int i = 0; i < 9; i++) {
                CHECK.same("-1, byte " + i + " of " + n, minus.seed(i), i < n ? 255 : 0);
                CHECK.same("0, byte " + i + " of " + n, zero.seed(i), 0);
                CHECK.same("MIN_VALUE, byte " + i + " of " + n, least.seed(i), n == 8 && i == 0 ? 128 : 0);
                int due = i >= n ? 0 : n == 8 && i == 0 ? 127 : 255;
                CHECK.same("MAX_VALUE, byte " + i + " of " + n, most.seed(i), due);
            }
        }
    }

    private static void behindTheOthers() {
        RasterRows x = new RasterRows(64, 8, 75);
        x.open(0, 0);
        x.data(0x0102, 2);
        x.data(-1, 1);
        x.data(0x030405, 3);
        CHECK.same("bytes to come", x.look(9), 6);
        x.row();
        CHECK.seedIs("parts in their order", x, 1, 2, 255, 3, 4, 5, 0);
        x.data(0x0607, 2);
        x.row();
        CHECK.seedIs("and anew behind row()", x, 6, 7, 0, 0, 0, 0, 0);
    }

    private static void withoutRaster() {
        RasterRows x = new RasterRows(64, 8, 75);
        CHECK.yes("data without a raster", x.data(0x0102, 2));
        x.open(0, 0);
        x.shut();
        CHECK.yes("data after shut", x.data(3, 1));
        CHECK.same("bytes to come", x.look(9), 3);
        x.open(0, 0);
        x.row();
        CHECK.seedIs("the row of them", x, 1, 2, 3, 0);
    }

    private static void refused(int n) {
        RasterRows x = new RasterRows(64, 8, 75);
        CHECK.no("data(5, " + n + ")", x.data(5, n));
        CHECK.same("bytes to come after it", x.look(9), 0);
        x.data(1, 1);
        x.open(0, 0);
        CHECK.no("data(5, " + n + ") while open", x.data(5, n));
        CHECK.same("bytes to come after it", x.look(9), 1);
        x.row();
        CHECK.seedIs("the row", x, 1, 0, 0);
    }

    private static void tooFew() {
        refused(0);
        refused(-1);
        refused(-8);
        refused(Integer.MIN_VALUE);
        refused(Integer.MIN_VALUE + 1);
    }

    private static void tooMany() {
        refused(9);
        refused(10);
        refused(256 + 1);
        refused(Integer.MAX_VALUE);
    }

    /** 511 calls for 4088 bytes. */
    private static RasterRows with4088() {
        RasterRows x = new RasterRows(64, 8, 75);
        for (int i = 0; i < 511; i++) {
            x.data(0x0102030405060708L, 8);
        }
        CHECK.same("bytes to come", x.look(9), 4088);
        return x;
    }

    private static void exactly4096() {
        RasterRows x = with4088();
        CHECK.yes("8 more, the 512th call", x.data(-1, 8));
        CHECK.same("bytes to come", x.look(9), 4096);
    }

    /** Goes beyond the 512 calls that the document speaks of: the limit stands there all the same. */
    private static void moreThan4096() {
        for (int had = 0; had <= 8; had++) {
            for (int n = 1; n <= 8; n++) {
                RasterRows x = with4088();
                if (had > 0) {
                    x.data(0, had);
                }
                boolean fits = had + n <= 8;
                String name = n + " behind " + (4088 + had);
                CHECK.same(name, Check.bit(x.data(-1, n)), Check.bit(fits));
                CHECK.same(name + ", bytes to come", x.look(9), 4088 + had + (fits ? n : 0));
            }
        }
    }

    private static void roomAgain() {
        RasterRows x = with4088();
        x.data(-1, 8);
        CHECK.no("no room", x.data(1, 1));
        x.open(0, 0);
        x.row();
        CHECK.same("the last byte of the row", x.seed(639), 8);
        CHECK.same("none to come", x.look(9), 0);
        CHECK.yes("room again after row", x.data(1, 8));
    }

    /** All of 4096 bytes are looked at: only the last two of them change the row. */
    private static void allAreUnpacked() {
        RasterRows x = new RasterRows(64, 8, 75);
        x.size(false, 16);
        x.method(2);
        for (int i = 0; i < 511; i++) {
            x.data(0x8080808080808080L, 8);
        }
        x.data(0x808080808080ff03L, 8);
        x.open(0, 0);
        x.row();
        CHECK.seedIs("the row", x, 3, 3);
    }

    public static void main(String[] args) {
        CHECK.sentence("The n lowest bytes of part, the highest of them first", P06DataTest::lowestBytes);
        CHECK.sentence("The n lowest bytes of part: its edges", P06DataTest::partsAtTheEdge);
        CHECK.sentence("come behind the bytes that are to be a row: true", P06DataTest::behindTheOthers);
        CHECK.sentence("the bytes that are to be a row: without a raster, too", P06DataTest::withoutRaster);
        CHECK.sentence("false if n is not 1 ..", P06DataTest::tooFew);
        CHECK.sentence("false if n is not .. 8", P06DataTest::tooMany);
        CHECK.sentence("or there would be more than 4096: 4096 can be", P06DataTest::exactly4096);
        CHECK.sentence("or there would be more than 4096", P06DataTest::moreThan4096);
        CHECK.sentence("or there would be more than 4096: not behind row()", P06DataTest::roomAgain);
        CHECK.sentence("the bytes that are to be a row: all 4096", P06DataTest::allAreUnpacked);
        CHECK.finish();
    }
}
