import java.util.function.Consumer;
import java.util.function.LongSupplier;
import java.util.function.Supplier;

/**
 * Counts the answers that are not as due. A test gives each sentence of the document that it tests to sentence(), and
 * ends by finish().
 */
final class Check {
    static final int[] FAR = {Integer.MIN_VALUE, Integer.MIN_VALUE + 1, Integer.MAX_VALUE - 1, Integer.MAX_VALUE};

    private final String test;
    private String sentence = "";
    private int asked = 0;
    private int wrong = 0;

    Check(String test) {
        this.test = test;
    }

    /** Runs the test of one sentence; what goes wrong is told with the sentence, and does not stop the other tests. */
    void sentence(String text, Runnable one) {
        int before = asked;
        sentence = " \"" + text + "\"";
        try {
            one.run();
        } catch (RuntimeException e) {
            isWrong("threw " + e);
        }
        if (asked == before) {
            isWrong("asked nothing");
        }
        sentence = "";
    }

    private void isWrong(String told) {
        wrong++;
        System.out.println(test + sentence + ": " + told);
    }

    void same(String what, long got, long due) {
        asked++;
        if (got != due) {
            isWrong(what + " answered " + got + ", due is " + due);
        }
    }

    void yes(String what, boolean got) {
        same(what, got ? 1 : 0, 1);
    }

    void no(String what, boolean got) {
        same(what, got ? 1 : 0, 0);
    }

    void fails(String what, Class<? extends RuntimeException> due, LongSupplier call) {
        asked++;
        String got = answer(call);
        if (!got.equals(due.getSimpleName())) {
            isWrong(what + " answered " + got + ", due is " + due.getSimpleName());
        }
    }

    /** The answer of a call, or the name of what it throws. */
    static String answer(LongSupplier call) {
        try {
            return Long.toString(call.getAsLong());
        } catch (RuntimeException e) {
            return e.getClass().getSimpleName();
        }
    }

    static long bit(boolean b) {
        return b ? 1 : 0;
    }

    /** All that can be asked of an object. */
    static String state(RasterRows x) {
        StringBuilder told = new StringBuilder();
        for (int which = 0; which <= 13; which++) {
            told.append(x.look(which)).append(' ');
        }
        for (int i = 0; i < Math.max(x.look(7), 0); i++) {
            told.append(x.seed(i)).append(',');
        }
        for (int y = 0; y < x.look(1); y++) {
            for (int k = 0; 64 * k < x.look(0); k++) {
                told.append(' ').append(x.line(y, k));
            }
        }
        return told.toString();
    }

    /** What an object answers now, and in calls to come, where its places, sizes and bytes to come show. */
    private static String story(RasterRows x) {
        StringBuilder told = new StringBuilder(state(x));
        told.append(answer(x::row)).append(state(x));
        told.append(answer(() -> bit(x.data(0x83c1L, 2)))).append(answer(x::row)).append(state(x));
        told.append(answer(() -> x.skip(10000))).append(state(x));
        told.append(answer(x::shut)).append(state(x));
        told.append(answer(() -> bit(x.open(1, 1)))).append(state(x));
        told.append(answer(() -> bit(x.data(0xfffffffffffL, 6)))).append(answer(x::row)).append(state(x));
        told.append(answer(() -> x.skip(10000))).append(answer(x::shut)).append(state(x));
        return told.toString();
    }

    /** Makes an object twice, does something to one of the two, and asks whether both go on in the same way. */
    void changesNothing(String what, Supplier<RasterRows> make, Consumer<RasterRows> call) {
        RasterRows plain = make.get();
        RasterRows called = make.get();
        call.accept(called);
        yes(what + " changes nothing", story(called).equals(story(plain)));
    }

    /** Gives bytes one by one. */
    static void give(RasterRows x, int... bytes) {
        for (int b : bytes) {
            x.data(b, 1);
        }
    }

    static int giveRow(RasterRows x, int method, int... bytes) {
        x.method(method);
        give(x, bytes);
        return x.row();
    }

    void looks(String what, RasterRows x, int... due) {
        for (int which = 0; which < due.length; which++) {
            same(what + ", look(" + which + ")", x.look(which), due[which]);
        }
    }

    void seedIs(String what, RasterRows x, int... due) {
        for (int i = 0; i < due.length; i++) {
            same(what + ", seed(" + i + ")", x.seed(i), due[i]);
        }
    }

    void finish() {
        if (asked == 0) {
            isWrong("asked nothing");
        }
        if (wrong != 0) {
            System.out.println(test + ": " + wrong + " wrong, " + asked + " answers asked for");
            System.exit(1);
        }
    }
}
