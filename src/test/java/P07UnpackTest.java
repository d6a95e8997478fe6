/** Promise 7: the unpacking by METHOD 0 to 3, and the SEED. */
public final class P07UnpackTest {
    private static final Check CHECK = new Check("P07UnpackTest");

    private static RasterRows opened(int width) {
        RasterRows x = new RasterRows(64, 8, 75);
        x.size(false, width);
        x.open(0, 0);
        Check.giveRow(x, 0, 9, 9, 9, 9, 9, 9, 9, 9);
        return x;
    }

    private static void unpacks(int method, int[] bytes, int... due) {
        RasterRows x = opened(8 * due.length);
        Check.giveRow(x, method, bytes);
        CHECK.seedIs("method " + method + " of " + java.util.Arrays.toString(bytes), x, due);
        CHECK.same("no byte behind", x.seed(due.length), -1);
    }

    private static int[] bytes(int... bytes) {
        return bytes;
    }

    private static void plain() {
        unpacks(0, bytes(), 0, 0, 0);
        unpacks(0, bytes(1), 1, 0, 0);
        unpacks(0, bytes(1, 128, 255), 1, 128, 255);
        unpacks(0, bytes(1, 2, 3, 4), 1, 2, 3);
    }

    private static void pairs() {
        unpacks(1, bytes(), 0, 0, 0);
        unpacks(1, bytes(0), 0, 0, 0);
        unpacks(1, bytes(0, 5), 5, 0, 0);
        unpacks(1, bytes(1, 5), 5, 5, 0);
        unpacks(1, bytes(1, 5, 7), 5, 5, 0);
        unpacks(1, bytes(1, 5, 0, 7, 0, 8), 5, 5, 7, 8, 0);
        unpacks(1, bytes(255, 5, 0, 7), 5, 5, 5);
        unpacks(1, bytes(1, 5, 3, 7, 0, 8), 5, 5, 7);
        RasterRows x = opened(0);
        Check.giveRow(x, 1, 255, 5, 0, 7);
        CHECK.same("256 times", x.seed(255), 5);
        CHECK.same("then the next", x.seed(256), 7);
        CHECK.same("then nothing", x.seed(257), 0);
    }

    private static void runs() {
        unpacks(2, bytes(), 0, 0, 0);
        unpacks(2, bytes(0), 0, 0, 0);
        unpacks(2, bytes(0, 5), 5, 0, 0);
        unpacks(2, bytes(2, 5, 6, 7), 5, 6, 7, 0);
        unpacks(2, bytes(2, 5, 6), 5, 6, 0, 0);
        unpacks(2, bytes(127, 5, 6), 5, 6, 0, 0);
        unpacks(2, bytes(255, 5), 5, 5, 0);
        unpacks(2, bytes(254, 5, 255, 6), 5, 5, 5, 6, 6, 0);
        unpacks(2, bytes(255), 0, 0, 0);
        unpacks(2, bytes(0, 5, 255), 5, 0, 0);
        unpacks(2, bytes(128), 0, 0, 0);
        unpacks(2, bytes(128, 128, 0, 5, 128, 255, 6), 5, 6, 6, 0);
        unpacks(2, bytes(254, 5, 1, 6, 7, 0, 8), 5, 5);
        unpacks(2, bytes(3, 5, 6, 7, 8, 0, 9), 5, 6);
        RasterRows x = opened(0);
        Check.giveRow(x, 2, 129, 5, 0, 7);
        CHECK.same("128 times", x.seed(127), 5);
        CHECK.same("then the next", x.seed(128), 7);
        CHECK.same("then nothing", x.seed(129), 0);
        longLiteral();
    }

    private static void longLiteral() {
        RasterRows x = opened(0);
        x.method(2);
        Check.give(x, 127);
        for (int i = 0; i < 128; i++) {
            Check.give(x, 100 + i);
        }
        Check.give(x, 0, 7);
        x.row();
        CHECK.same("the first of 128", x.seed(0), 100);
        CHECK.same("the last of 128", x.seed(127), 227);
        CHECK.same("then the next", x.seed(128), 7);
        CHECK.same("then nothing", x.seed(129), 0);
    }

    private static void changes() {
        unpacks(3, bytes(), 9, 9, 9);
        unpacks(3, bytes(0), 9, 9, 9);
        unpacks(3, bytes(0, 5), 5, 9, 9);
        unpacks(3, bytes(1, 5), 9, 5, 9);
        unpacks(3, bytes(32, 5, 6), 5, 6, 9);
        unpacks(3, bytes(64 + 1, 5, 6), 9, 5, 6, 9);
        unpacks(3, bytes(0, 5, 0, 6, 1, 7), 5, 6, 9, 7, 9);
        unpacks(3, bytes(32 + 1, 5, 6, 1, 7), 9, 5, 6, 9, 7, 9);
        unpacks(3, bytes(7 * 32, 1, 2, 3, 4, 5, 6, 7, 8), 1, 2, 3, 4, 5, 6, 7, 8);
        unpacks(3, bytes(3 * 32 + 1, 5, 6, 7, 8, 0, 4), 9, 5, 6);
        unpacks(3, bytes(30, 5), 9, 9, 9);
        unpacks(3, bytes(31), 9, 9, 9);
        unpacks(3, bytes(31, 0), 9, 9, 9);
        unpacks(3, bytes(31, 255), 9, 9, 9);
        unpacks(3, bytes(0, 5, 31, 255, 255), 5, 9, 9);
    }

    private static void changedAt(int place, int... bytes) {
        RasterRows x = new RasterRows(64, 8, 75);
        x.open(0, 0);
        Check.giveRow(x, 3, bytes);
        for (int i = 0; i < 640; i++) {
            CHECK.same("offset to " + place + ", seed(" + i + ")", x.seed(i), i == place ? 77 : 0);
        }
    }

    private static void offsets() {
        changedAt(30, 30, 77);
        changedAt(31, 31, 0, 77);
        changedAt(32, 31, 1, 77);
        changedAt(31 + 254, 31, 254, 77);
        changedAt(31 + 255, 31, 255, 0, 77);
        changedAt(31 + 255 + 254, 31, 255, 254, 77);
        changedAt(31 + 255 + 255 + 98, 31, 255, 255, 98, 77);
        changedAt(640, 31, 255, 255, 99, 77);
        changedAt(640, 31, 255, 255, 255, 255, 255, 0, 77);
        changedAt(640, 31, 255, 255);
        changedAt(33, 31, 0, 0, 1, 77);
    }

    private static void seedGoesOn() {
        RasterRows x = new RasterRows(64, 8, 75);
        x.size(false, 20);
        x.open(0, 0);
        Check.giveRow(x, 2, 2, 1, 2, 0x1f);
        Check.giveRow(x, 3, 1, 7);
        CHECK.seedIs("changes of the row before", x, 1, 7, 0x1f);
        Check.giveRow(x, 3, 0, 8);
        CHECK.seedIs("changes of changes", x, 8, 7, 0x1f);
        CHECK.same("the line of it", x.line(2, 0), 0x0807100000000000L);
        Check.giveRow(x, 1);
        CHECK.seedIs("a row of no bytes", x, 0, 0, 0);
    }

    public static void main(String[] args) {
        plain();
        pairs();
        runs();
        changes();
        offsets();
        seedGoesOn();
        CHECK.finish();
    }
}
