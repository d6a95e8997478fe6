import java.util.function.LongSupplier;

/** Runs of calls, the same each time, whose answers are compared with those of PlainModel. */
public final class RunsTest {
    private static final int RUNS = 1000;
    private static final int CALLS = 512;
    private static final int[] ODD = {-10001, -10000, -1, 0, 1, 74, 4096, 5119, 5120, 10000, 10001,
        Integer.MIN_VALUE, Integer.MAX_VALUE};
    private static final int[] RESOLUTIONS = {75, 100, 150, 300};
    private static final Check CHECK = new Check("RunsTest");

    private final int run;
    private final boolean heavy;
    private long state;
    private int w;
    private int h;
    private RasterRows real;
    private PlainModel model;

    private RunsTest(int run) {
        this.run = run;
        heavy = run % 5 == 0;
        state = 88172645463325252L + 7919L * run;
    }

    /** A plain chain of numbers (xorshift), so that each run can be made again. */
    private long next() {
        state ^= state << 13;
        state ^= state >>> 7;
        state ^= state << 17;
        return state;
    }

    private int below(int n) {
        return (int) Math.floorMod(next(), (long) n);
    }

    private int between(int from, int to) {
        return from + below(to - from + 1);
    }

    private int oddOr(int usual) {
        return below(12) == 0 ? ODD[below(ODD.length)] : usual;
    }

    private static long told(LongSupplier call) {
        try {
            return call.getAsLong();
        } catch (RuntimeException e) {
            Class<?> c = e.getClass();
            return c == IllegalStateException.class ? PlainModel.STATE
                    : c == IllegalArgumentException.class ? PlainModel.ARGUMENT
                    : c == IndexOutOfBoundsException.class ? PlainModel.INDEX : Long.MIN_VALUE;
        }
    }

    private static long bit(boolean b) {
        return b ? 1 : 0;
    }

    private void compare(String call, LongSupplier got, LongSupplier due) {
        CHECK.same("run " + run + " " + call, told(got), due.getAsLong());
    }

    private void play() {
        int dpi = oddOr(RESOLUTIONS[below(4)]);
        w = heavy ? between(1, 300) : between(1, 140);
        h = heavy ? between(1, 150) : between(1, 40);
        real = new RasterRows(w, h, dpi);
        model = new PlainModel(w, h, dpi);
        if (heavy) {
            startFull();
        }
        for (int i = heavy ? 6 : 0; i < CALLS; i++) {
            switch (heavy && below(16) != 0 ? 3 : below(5)) {
                case 0 -> set();
                case 1, 2 -> feed();
                case 3 -> take();
                default -> ask();
            }
        }
    }

    /** Six calls behind which each row() alone is a row of 640 bytes, so that the sheet comes to be OVERRUN. */
    private void startFull() {
        compare("open(0, 0)", () -> bit(real.open(0, 0)), () -> model.open(0, 0));
        compare("method(1)", () -> bit(real.method(1)), () -> model.method(1));
        compare("data(..)", () -> bit(real.data(0xff55ff33ff0fL, 6)), () -> model.data(0xff55ff33ff0fL, 6));
        compare("row()", () -> real.row(), () -> model.row());
        compare("method(3)", () -> bit(real.method(3)), () -> model.method(3));
        compare("row()", () -> real.row(), () -> model.row());
    }

    private void set() {
        switch (below(6)) {
            case 0 -> {
                int r = oddOr(RESOLUTIONS[below(4)]);
                compare("resolution(" + r + ")", () -> bit(real.resolution(r)), () -> model.resolution(r));
            }
            case 1 -> {
                boolean high = below(3) == 0;
                int n = below(4) == 0 ? 0 : oddOr(high ? between(1, 30) : between(1, 80));
                compare("size(" + high + ", " + n + ")", () -> bit(real.size(high, n)), () -> model.size(high, n));
            }
            case 2 -> {
                int m = oddOr(between(0, 3));
                compare("method(" + m + ")", () -> bit(real.method(m)), () -> model.method(m));
            }
            case 3, 4 -> {
                int x = oddOr(between(-40, w));
                int y = oddOr(between(-20, h));
                compare("open(" + x + ", " + y + ")", () -> bit(real.open(x, y)), () -> model.open(x, y));
            }
            default -> {
                if (below(6) == 0) {
                    compare("shut()", () -> real.shut(), () -> model.shut());
                }
            }
        }
    }

    private void feed() {
        int n = oddOr(between(1, 8));
        long part = below(2) == 0 ? next() : smallBytes();
        compare("data(" + part + ", " + n + ")", () -> bit(real.data(part, n)), () -> model.data(part, n));
    }

    /** Bytes of which many are counts or offsets that do not lead far, or the edges of the four ways. */
    private long smallBytes() {
        int[] edges = {0, 1, 2, 31, 32, 33, 63, 95, 127, 128, 129, 224, 254, 255};
        long part = 0;
        for (int i = 0; i < 8; i++) {
            part = part << 8 | (below(2) == 0 ? below(8) : edges[below(edges.length)]);
        }
        return part;
    }

    private void take() {
        int kind = below(heavy ? 60 : 12);
        if (kind == 0) {
            int n = oddOr(between(0, 5));
            compare("skip(" + n + ")", () -> real.skip(n), () -> model.skip(n));
        } else if (kind == 1 && below(heavy ? 8 : 3) == 0) {
            compare("eject()", () -> {
                real.eject();
                return 0;
            }, () -> model.eject());
        } else {
            compare("row()", () -> real.row(), () -> model.row());
        }
    }

    private void ask() {
        switch (below(4)) {
            case 0 -> {
                int y = oddOr(between(-1, h));
                int k = oddOr(between(-1, w / 64 + 1));
                compare("line(" + y + ", " + k + ")", () -> real.line(y, k), () -> model.line(y, k));
            }
            case 1 -> {
                int x = oddOr(between(-1, w));
                int y = oddOr(between(-1, h));
                compare("black(" + x + ", " + y + ")", () -> bit(real.black(x, y)), () -> model.black(x, y));
            }
            case 2 -> {
                int i = below(3) == 0 ? oddOr(between(-1, 640)) : between(0, 10);
                compare("seed(" + i + ")", () -> real.seed(i), () -> model.seed(i));
            }
            default -> {
                int which = oddOr(between(-1, 14));
                compare("look(" + which + ")", () -> real.look(which), () -> model.look(which));
            }
        }
    }

    private void compareAll() {
        for (int which = 0; which < 14; which++) {
            int n = which;
            compare("at the end look(" + n + ")", () -> real.look(n), () -> model.look(n));
        }
        for (int y = 0; y < h; y++) {
            for (int k = 0; k <= w / 64; k++) {
                int atY = y;
                int atK = k;
                compare("at the end line(" + y + ", " + k + ")", () -> real.line(atY, atK), () -> model.line(atY, atK));
            }
        }
        for (int i = 0; i < 640; i++) {
            int n = i;
            compare("at the end seed(" + n + ")", () -> real.seed(n), () -> model.seed(n));
        }
    }

    public static void main(String[] args) {
        int overruns = 0;
        for (int run = 1; run <= RUNS; run++) {
            RunsTest test = new RunsTest(run);
            test.play();
            test.compareAll();
            overruns += test.real.look(12);
        }
        CHECK.yes("some runs end OVERRUN", overruns > 0);
        CHECK.finish();
    }
}
