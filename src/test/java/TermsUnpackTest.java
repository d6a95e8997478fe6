import java.util.Arrays;

/** Terms: a ROW of bytes is UNPACKED by METHOD 0 to 3. */
public final class TermsUnpackTest {
    private static final Check CHECK = new Check("TermsUnpackTest");

    private static int[] bytes(int... bytes) {
        return bytes;
    }

    private static RasterRows opened(int width, int seed) {
        RasterRows x = new RasterRows(64, 8, 75);
        x.size(false, width);
        x.open(0, 0);
        Check.giveRow(x, 1, 255, seed, 255, seed, 127, seed);
        return x;
    }

    /** Behind a row all of whose bytes are 9, which shows only where a method leaves the SEED. */
    private static void unpacks(int method, int[] bytes, int... due) {
        RasterRows x = opened(8 * due.length, 9);
        CHECK.same("the row's number", Check.giveRow(x, method, bytes), 1);
        CHECK.seedIs("METHOD " + method + " of " + Arrays.toString(bytes), x, due);
        CHECK.same("no byte behind", x.seed(due.length), -1);
    }

    /** A row of 640 bytes: those before first are like the SEED (5), then comes what is due, and the SEED again. */
    private static void changes(int[] bytes, int first, int... due) {
        RasterRows x = opened(0, 5);
        Check.giveRow(x, 3, bytes);
        for (int i = 0; i < 640; i++) {
            boolean changed = i >= first && i < first + due.length;
            CHECK.same(Arrays.toString(bytes) + ", seed(" + i + ")", x.seed(i), changed ? due[i - first] : 5);
        }
    }

    private static void methodAtFirst() {
        RasterRows x = new RasterRows(64, 8, 75);
        x.size(false, 24);
        x.open(0, 0);
        Check.give(x, 1, 7, 2);
        x.row();
        CHECK.seedIs("as they are", x, 1, 7, 2);
    }

    private static void methodThatThereIs() {
        RasterRows x = opened(40, 9);
        x.method(0);
        Check.give(x, 1, 7);
        x.method(1);
        x.row();
        CHECK.seedIs("by the METHOD at the time of row()", x, 7, 7, 0, 0, 0);
    }

    private static void tooManyBytes() {
        unpacks(0, bytes(1, 2, 3, 4), 1, 2, 3);
        unpacks(0, bytes(1, 2, 3, 4, 5, 6, 7, 8, 9), 1);
        unpacks(1, bytes(255, 5, 0, 7), 5, 5, 5);
        unpacks(1, bytes(1, 5, 3, 7, 0, 8), 5, 5, 7);
        unpacks(1, bytes(1, 5, 0, 7, 0, 8), 5, 5, 7);
        unpacks(2, bytes(254, 5, 1, 6, 7, 0, 8), 5, 5);
        unpacks(2, bytes(3, 5, 6, 7, 8, 0, 9), 5, 6);
        unpacks(2, bytes(129, 5, 129, 6), 5, 5);
        unpacks(3, bytes(3 * 32 + 1, 5, 6, 7, 8, 0, 4), 9, 5, 6);
        unpacks(3, bytes(3, 5, 0, 6), 9, 9, 9);
        unpacks(3, bytes(30, 5), 9, 9, 9);
        unpacks(3, bytes(31, 255, 255, 255, 0, 5, 0, 6), 9, 9, 9);
    }

    /** What falls behind the LENGTH of a narrow raster is not found in a wider one. */
    private static void tooManyBytesLeaveNothing() {
        RasterRows x = opened(8, 9);
        Check.giveRow(x, 0, 1, 2, 3);
        x.shut();
        x.size(false, 24);
        x.open(0, 0);
        CHECK.seedIs("the SEED of the wider raster", x, 0, 0, 0);
        Check.giveRow(x, 3, 0, 4);
        CHECK.seedIs("a change of it", x, 4, 0, 0);
    }

    private static void longestRow() {
        RasterRows x = opened(0, 9);
        x.method(0);
        for (int i = 0; i < 81; i++) {
            x.data(0x0102030405060708L, 8);
        }
        x.row();
        for (int i = 0; i < 640; i++) {
            CHECK.same("seed(" + i + ") of 648", x.seed(i), i % 8 + 1);
        }
        CHECK.same("seed(640)", x.seed(640), -1);
    }

    private static void tooFewBytes() {
        unpacks(0, bytes(), 0, 0, 0);
        unpacks(0, bytes(1), 1, 0, 0);
        unpacks(1, bytes(), 0, 0, 0);
        unpacks(1, bytes(1, 5), 5, 5, 0);
        unpacks(2, bytes(), 0, 0, 0);
        unpacks(2, bytes(0, 5), 5, 0, 0);
        unpacks(2, bytes(255, 5), 5, 5, 0);
    }

    private static void tooFewBytesFor3() {
        unpacks(3, bytes(), 9, 9, 9);
        unpacks(3, bytes(0, 5), 5, 9, 9);
        unpacks(3, bytes(32, 5, 6), 5, 6, 9);
    }

    private static void asTheyAre() {
        unpacks(0, bytes(0, 1, 127, 128, 255), 0, 1, 127, 128, 255);
        unpacks(0, bytes(0, 0, 3), 0, 0, 3);
    }

    private static void pairs() {
        unpacks(1, bytes(0, 5), 5, 0, 0);
        unpacks(1, bytes(1, 5, 0, 7, 0, 8), 5, 5, 7, 8, 0);
        unpacks(1, bytes(0, 255, 2, 128), 255, 128, 128, 128);
        unpacks(1, bytes(1, 0, 0, 6), 0, 0, 6, 0);
    }

    private static void longestPair() {
        RasterRows x = opened(0, 9);
        Check.giveRow(x, 1, 255, 5, 0, 7);
        CHECK.same("the last of 256", x.seed(255), 5);
        CHECK.same("then the next", x.seed(256), 7);
        CHECK.same("then nothing", x.seed(257), 0);
    }

    private static void oddByteAtTheEnd() {
        unpacks(1, bytes(0), 0, 0, 0);
        unpacks(1, bytes(255), 0, 0, 0);
        unpacks(1, bytes(1, 5, 7), 5, 5, 0, 0);
        unpacks(1, bytes(0, 5, 0, 6, 255), 5, 6, 0, 0);
    }

    private static void literals() {
        unpacks(2, bytes(0, 5, 0, 6), 5, 6, 0);
        unpacks(2, bytes(0, 5, 1, 6, 7, 0, 8, 1, 3, 4), 5, 6, 7, 8, 3, 4, 0);
        unpacks(2, bytes(2, 5, 6, 7, 0, 8), 5, 6, 7, 8, 0);
        unpacks(2, bytes(2, 128, 129, 255, 0, 8), 128, 129, 255, 8, 0);
    }

    private static void longestLiteral() {
        RasterRows x = opened(0, 9);
        x.method(2);
        Check.give(x, 127);
        for (int i = 0; i < 128; i++) {
            Check.give(x, 100 + i);
        }
        Check.give(x, 0, 7);
        x.row();
        CHECK.same("the first of 128", x.seed(0), 100);
        CHECK.same("the last of 128", x.seed(127), 227);
        CHECK.same("then the next", x.seed(128), 7);
        CHECK.same("then nothing", x.seed(129), 0);
    }

    private static void shortLiteral() {
        unpacks(2, bytes(2, 5, 6), 5, 6, 0, 0);
        unpacks(2, bytes(127, 5), 5, 0, 0, 0);
        unpacks(2, bytes(0), 0, 0, 0);
        unpacks(2, bytes(127), 0, 0, 0);
        unpacks(2, bytes(0, 5, 1), 5, 0, 0);
    }

    private static void repeated() {
        unpacks(2, bytes(255, 5), 5, 5, 0);
        unpacks(2, bytes(254, 5, 255, 6), 5, 5, 5, 6, 6, 0);
        unpacks(2, bytes(255, 0, 0, 6), 0, 0, 6, 0);
        unpacks(2, bytes(255, 5, 254, 6, 255, 7, 255, 8), 5, 5, 6, 6, 6, 7, 7, 8, 8, 0);
        unpacks(2, bytes(0, 5, 255, 6, 1, 7, 8, 255, 3, 0, 4), 5, 6, 6, 7, 8, 3, 3, 4, 0);
        RasterRows x = opened(0, 9);
        Check.giveRow(x, 2, 129, 5, 0, 7);
        CHECK.same("the last of 128", x.seed(127), 5);
        CHECK.same("then the next", x.seed(128), 7);
        CHECK.same("then nothing", x.seed(129), 0);
    }

    private static void repeatedNothing() {
        unpacks(2, bytes(255), 0, 0, 0);
        unpacks(2, bytes(129), 0, 0, 0);
        unpacks(2, bytes(0, 5, 254), 5, 0, 0);
    }

    private static void passedOver() {
        unpacks(2, bytes(128), 0, 0, 0);
        unpacks(2, bytes(128, 0, 5), 5, 0, 0);
        unpacks(2, bytes(128, 128, 0, 5, 128, 255, 6, 128), 5, 6, 6, 0);
    }

    private static void likeTheSeed() {
        changes(bytes(), 0);
        unpacks(3, bytes(1, 0), 9, 0, 9);
        RasterRows x = opened(20, 9);
        Check.giveRow(x, 2, 2, 1, 2, 0x1f);
        Check.giveRow(x, 3, 1, 7);
        CHECK.seedIs("changes of the row before", x, 1, 7, 0x1f);
        Check.giveRow(x, 3, 0, 8);
        CHECK.seedIs("changes of changes", x, 8, 7, 0x1f);
        Check.giveRow(x, 3);
        CHECK.seedIs("no changes", x, 8, 7, 0x1f);
    }

    private static void placeIsZeroAtFirst() {
        RasterRows x = opened(24, 9);
        Check.giveRow(x, 3, 1, 5);
        Check.giveRow(x, 3, 0, 6);
        CHECK.seedIs("each row begins at 0", x, 6, 5, 9);
    }

    private static void shortOffsets() {
        for (int offset = 0; offset <= 30; offset++) {
            changes(bytes(offset, 77), offset, 77);
        }
    }

    private static void longOffsets() {
        changes(bytes(31, 0, 77), 31, 77);
        changes(bytes(31, 1, 77), 32, 77);
        changes(bytes(31, 31, 77), 62, 77);
        changes(bytes(31, 254, 77), 285, 77);
        changes(bytes(63, 2, 77, 78), 33, 77, 78);
        changes(bytes(255, 0, 1, 2, 3, 4, 6, 7, 8, 9), 31, 1, 2, 3, 4, 6, 7, 8, 9);
    }

    private static void addedAsLongAs255() {
        changes(bytes(31, 255, 0, 77), 286, 77);
        changes(bytes(31, 255, 254, 77), 540, 77);
        changes(bytes(31, 255, 255, 0, 77), 541, 77);
        changes(bytes(31, 255, 255, 98, 77), 639, 77);
        changes(bytes(31, 255, 255, 99, 77), 640);
        changes(bytes(31, 255, 255, 255, 255, 255, 0, 77), 640);
        changes(bytes(31, 254, 255, 0, 88), 285, 255, 88);
    }

    private static void placeGoesOn() {
        unpacks(3, bytes(0, 5, 0, 6, 1, 7), 5, 6, 9, 7, 9);
        unpacks(3, bytes(32 + 1, 5, 6, 1, 7), 9, 5, 6, 9, 7, 9);
        RasterRows x = opened(0, 5);
        Check.giveRow(x, 3, 31, 0, 77, 31, 1, 78, 30, 79);
        for (int i = 0; i < 640; i++) {
            CHECK.same("seed(" + i + ")", x.seed(i), i == 31 ? 77 : i == 64 ? 78 : i == 95 ? 79 : 5);
        }
    }

    private static void oneToEightFollow() {
        int[] all = {11, 12, 13, 14, 15, 16, 17, 18};
        for (int n = 1; n <= 8; n++) {
            int[] bytes = new int[n + 3];
            bytes[0] = 32 * (n - 1) + 2;
            System.arraycopy(all, 0, bytes, 1, n);
            bytes[n + 1] = 0;
            bytes[n + 2] = 99;
            int[] due = Arrays.copyOf(all, n + 1);
            due[n] = 99;
            changes(bytes, 2, due);
        }
    }

    private static void endsWithinTheBytes() {
        changes(bytes(0), 0);
        changes(bytes(7 * 32), 0);
        changes(bytes(7 * 32 + 1, 77), 1, 77);
        changes(bytes(7 * 32 + 1, 77, 78, 79), 1, 77, 78, 79);
        changes(bytes(0, 77, 4), 0, 77);
    }

    private static void endsWithinAnOffset() {
        changes(bytes(31), 0);
        changes(bytes(255), 0);
        changes(bytes(31, 0), 0);
        changes(bytes(31, 255), 0);
        changes(bytes(31, 255, 255), 0);
        changes(bytes(0, 77, 31), 0, 77);
        changes(bytes(0, 77, 31, 255, 255), 0, 77);
        changes(bytes(0, 77, 255, 255, 3), 0, 77);
    }

    private static void method0() {
        CHECK.sentence("0: the bytes as they are.", TermsUnpackTest::asTheyAre);
    }

    private static void method1() {
        CHECK.sentence("1: in pairs: a byte c, and a byte that comes c + 1 times", TermsUnpackTest::pairs);
        CHECK.sentence("a byte that comes c + 1 times: 256", TermsUnpackTest::longestPair);
        CHECK.sentence("(an odd one at the end is not there)", TermsUnpackTest::oddByteAtTheEnd);
    }

    private static void method2() {
        CHECK.sentence("for c up to 127 the next c + 1 bytes as they are", TermsUnpackTest::literals);
        CHECK.sentence("for c up to 127 the next c + 1 bytes: 128", TermsUnpackTest::longestLiteral);
        CHECK.sentence("(as many as there are)", TermsUnpackTest::shortLiteral);
        CHECK.sentence("for c above 128 the next byte comes 257 - c times", TermsUnpackTest::repeated);
        CHECK.sentence("(nothing, if there is none)", TermsUnpackTest::repeatedNothing);
        CHECK.sentence("128 is passed over", TermsUnpackTest::passedOver);
    }

    private static void method3() {
        CHECK.sentence("3: it is like the SEED, but for changes", TermsUnpackTest::likeTheSeed);
        CHECK.sentence("with a place, 0 at first", TermsUnpackTest::placeIsZeroAtFirst);
        CHECK.sentence("a byte c, an offset c % 32", TermsUnpackTest::shortOffsets);
        CHECK.sentence("if that is 31, the next byte is added to it", TermsUnpackTest::longOffsets);
        CHECK.sentence("as long as the byte added last was 255 the next one, too", TermsUnpackTest::addedAsLongAs255);
        CHECK.sentence("each of which comes to the place, which grows by 1", TermsUnpackTest::placeGoesOn);
        CHECK.sentence("then c / 32 + 1 bytes follow", TermsUnpackTest::oneToEightFollow);
        CHECK.sentence("(It ends where the bytes end ..", TermsUnpackTest::endsWithinTheBytes);
        CHECK.sentence("also within an offset: then nothing comes behind that.)", TermsUnpackTest::endsWithinAnOffset);
    }

    public static void main(String[] args) {
        CHECK.sentence("by the METHOD that there is (0 at first)", TermsUnpackTest::methodAtFirst);
        CHECK.sentence("by the METHOD that there is", TermsUnpackTest::methodThatThereIs);
        CHECK.sentence("what would come behind them is not there", TermsUnpackTest::tooManyBytes);
        CHECK.sentence("is not there, in a wider raster either", TermsUnpackTest::tooManyBytesLeaveNothing);
        CHECK.sentence("what would come behind 640 is not there", TermsUnpackTest::longestRow);
        CHECK.sentence("those to which nothing came are 0", TermsUnpackTest::tooFewBytes);
        CHECK.sentence("(but for 3)", TermsUnpackTest::tooFewBytesFor3);
        method0();
        method1();
        method2();
        method3();
        CHECK.finish();
    }
}
