/** Terms: a row is the SEED, its black dots blacken the sheet, ROW grows, and the HEIGHT ends it. */
public final class TermsDrawTest {
    private static final Check CHECK = new Check("TermsDrawTest");
    private static final int[] RESOLUTION_OF_SCALE = {0, 300, 150, 100, 75};

    private static RasterRows opened(int scale, int x, int y) {
        RasterRows made = new RasterRows(66, 10, 300);
        made.resolution(RESOLUTION_OF_SCALE[scale]);
        made.open(x, y);
        return made;
    }

    private static void rowIsTheSeed() {
        RasterRows x = opened(1, 0, 0);
        for (int method = 0; method <= 3; method++) {
            Check.giveRow(x, method, 1, method + 10);
            CHECK.same("seed(1) by METHOD " + method, x.seed(1), method == 2 ? 0 : method + 10);
        }
        Check.giveRow(x, 0, 0);
        CHECK.same("a white row is the SEED, too", x.seed(1), 0);
        x.skip(20);
        Check.giveRow(x, 0, 7);
        CHECK.same("a row below the sheet is, too", x.seed(0), 7);
    }

    /** Each dot of two bytes at each scale, at places on and over all edges. */
    private static void enlarged() {
        for (int scale = 1; scale <= 4; scale++) {
            for (int place = -70; place <= 70; place += 7) {
                RasterRows x = opened(scale, place, place / 7);
                x.skip(1);
                Check.giveRow(x, 0, 0xa0, 0x01);
                comparePlace(x, scale, place);
            }
        }
    }

    private static void comparePlace(RasterRows x, int scale, int place) {
        int black = 0;
        for (int y = 0; y < 10; y++) {
            for (int dot = 0; dot < 66; dot++) {
                int k = Math.floorDiv(dot - place, scale);
                boolean across = k == 0 || k == 2 || k == 15;
                boolean due = across && Math.floorDiv(y - place / 7, scale) == 1;
                black += due ? 1 : 0;
                CHECK.same("scale " + scale + " place " + place + " black(" + dot + ", " + y + ")",
                        Check.bit(x.black(dot, y)), Check.bit(due));
            }
        }
        CHECK.same("black dots, scale " + scale + " place " + place, x.look(13), black);
    }

    /** One black dot of SCALE 4 at a place: how many of its 16 dots are on the sheet of 66 by 10. */
    private static void seen(int x, int y, int due) {
        RasterRows made = opened(4, x, y);
        CHECK.same("the row's number", Check.giveRow(made, 0, 0x80), 0);
        CHECK.same("dots seen at " + x + ", " + y, made.look(13), due);
    }

    private static void overTheLeftEdge() {
        seen(0, 3, 16);
        seen(-1, 3, 12);
        seen(-3, 3, 4);
        seen(-4, 3, 0);
        seen(-10000, 3, 0);
    }

    private static void overTheRightEdge() {
        seen(62, 3, 16);
        seen(63, 3, 12);
        seen(65, 3, 4);
        seen(66, 3, 0);
        seen(10000, 3, 0);
    }

    private static void overTheUpperEdge() {
        seen(9, 0, 16);
        seen(9, -1, 12);
        seen(9, -3, 4);
        seen(9, -4, 0);
        seen(9, -10000, 0);
    }

    private static void overTheLowerEdge() {
        seen(9, 6, 16);
        seen(9, 7, 12);
        seen(9, 9, 4);
        seen(9, 10, 0);
        seen(9, 10000, 0);
    }

    private static void overTheCorners() {
        seen(-3, -3, 1);
        seen(65, 9, 1);
        seen(-3, 9, 1);
        seen(65, -3, 1);
        seen(-4, -4, 0);
    }

    /** What goes over an edge does not come in at another. */
    private static void noWrapAround() {
        RasterRows x = opened(1, 60, 4);
        Check.giveRow(x, 1, 255, 255, 255, 255, 127, 255);
        CHECK.same("line 4 begins white", x.line(4, 0), 0xf);
        CHECK.same("line 4 ends black", x.line(4, 1), 0xc000000000000000L);
        CHECK.same("line 5", x.line(5, 0), 0);
        CHECK.same("black dots", x.look(13), 6);
        RasterRows left = opened(1, -5115, 4);
        Check.giveRow(left, 1, 255, 255, 255, 255, 127, 255);
        CHECK.same("line 4", left.line(4, 0), 0xf800000000000000L);
        CHECK.same("line 3", left.line(3, 1), 0);
        CHECK.same("black dots", left.look(13), 5);
    }

    private static void wholeSheet() {
        RasterRows x = opened(4, -2, -2);
        Check.giveRow(x, 0, 255, 255, 255);
        x.method(3);
        x.row();
        x.row();
        CHECK.same("every dot", x.look(13), 660);
        x.row();
        CHECK.same("no dot more", x.look(13), 660);
    }

    private static void blackStaysBlack() {
        RasterRows x = opened(1, 0, 0);
        Check.giveRow(x, 0, 0xf0);
        x.shut();
        x.open(2, 0);
        Check.giveRow(x, 0, 0xc3);
        CHECK.same("both rasters on one line", x.line(0, 0), 0xf0c0000000000000L);
        CHECK.same("dots count once", x.look(13), 6);
    }

    private static void rowGrows() {
        RasterRows x = opened(1, 0, 0);
        for (int i = 0; i < 20; i++) {
            CHECK.same("number of row " + i, Check.giveRow(x, 0, i % 2 == 0 ? 255 : 0), i);
            CHECK.same("ROW behind it", x.look(6), i + 1);
        }
        for (int y = 0; y < 10; y++) {
            CHECK.same("line " + y, x.line(y, 0), y % 2 == 0 ? 0xff00000000000000L : 0);
        }
    }

    private static RasterRows atTheHeight(int height) {
        RasterRows x = new RasterRows(66, 10, 75);
        x.size(true, height);
        x.open(0, 0);
        Check.giveRow(x, 0, 0x80, 0x80);
        x.skip(10000);
        return x;
    }

    private static void heightEndsIt() {
        for (int height = 1; height <= 3; height++) {
            RasterRows x = new RasterRows(66, 10, 75);
            x.size(true, height);
            x.open(0, 0);
            for (int i = 0; i < height; i++) {
                CHECK.same("row " + i + " of " + height, Check.giveRow(x, 0, 0x80, i + 1), i);
            }
            CHECK.same("a row too many", Check.giveRow(x, 1, 0, 255), -1);
            CHECK.same("ROW stays", x.look(6), height);
            CHECK.seedIs("the SEED stays", x, 0x80, height, 0);
            CHECK.same("METHOD stays", x.look(4), 1);
            CHECK.same("rows kept stay", x.look(10), height);
            CHECK.same("bytes kept stay", x.look(11), 2 * height);
            CHECK.same("the line below stays white", x.line(height, 0), 0);
            CHECK.same("shut", x.shut(), height);
        }
    }

    private static void heightReachedBySkip() {
        RasterRows x = atTheHeight(5119);
        CHECK.same("ROW", x.look(6), 5119);
        CHECK.same("a row too many", Check.giveRow(x, 0, 255), -1);
        CHECK.same("rows kept", x.look(10), 1);
        CHECK.same("the SEED stays 0", x.seed(0), 0);
    }

    private static void heightAndOverrun() {
        RasterRows x = new RasterRows(64, 8, 75);
        x.size(true, 103);
        x.open(0, 0);
        Check.giveRow(x, 1, 255, 255, 255, 255, 127, 255);
        x.method(3);
        for (int i = 1; i < 102; i++) {
            x.row();
        }
        x.skip(1);
        CHECK.same("a row for which there is no room either", Check.giveRow(x, 1, 255, 255, 255, 255, 127, 255), -1);
        CHECK.same("not OVERRUN by it", x.look(12), 0);
    }

    private static void edgesOfTheSheet() {
        CHECK.sentence("as far as the sheet goes: left", TermsDrawTest::overTheLeftEdge);
        CHECK.sentence("as far as the sheet goes: right", TermsDrawTest::overTheRightEdge);
        CHECK.sentence("as far as the sheet goes: above", TermsDrawTest::overTheUpperEdge);
        CHECK.sentence("as far as the sheet goes: below", TermsDrawTest::overTheLowerEdge);
        CHECK.sentence("as far as the sheet goes: corners", TermsDrawTest::overTheCorners);
        CHECK.sentence("as far as the sheet goes: no wrap-around", TermsDrawTest::noWrapAround);
        CHECK.sentence("as far as the sheet goes: all of it", TermsDrawTest::wholeSheet);
    }

    public static void main(String[] args) {
        CHECK.sentence("Then the row is the SEED", TermsDrawTest::rowIsTheSeed);
        CHECK.sentence("dot k of it the dots from X + SCALE * k on, SCALE across ..", TermsDrawTest::enlarged);
        edgesOfTheSheet();
        CHECK.sentence("its dots that are black blacken the sheet", TermsDrawTest::blackStaysBlack);
        CHECK.sentence("and ROW grows by 1", TermsDrawTest::rowGrows);
        CHECK.sentence("If there is a HEIGHT and ROW has it, the row changes nothing.", TermsDrawTest::heightEndsIt);
        CHECK.sentence("ROW has it by skip", TermsDrawTest::heightReachedBySkip);
        CHECK.sentence("the row changes nothing: not OVERRUN either", TermsDrawTest::heightAndOverrun);
        CHECK.finish();
    }
}
