/** Counts the answers that are not as due; each test ends by finish(). */
final class Check {
    private final String test;
    private int asked = 0;
    private int wrong = 0;

    Check(String test) {
        this.test = test;
    }

    void same(String what, long got, long due) {
        asked++;
        if (got != due) {
            wrong++;
            System.out.println(test + ": " + what + " answered " + got + ", due is " + due);
        }
    }

    void yes(String what, boolean got) {
        same(what, got ? 1 : 0, 1);
    }

    void no(String what, boolean got) {
        same(what, got ? 1 : 0, 0);
    }

    void fails(String what, Class<? extends RuntimeException> due, Runnable call) {
        asked++;
        String got = "nothing";
        try {
            call.run();
        } catch (RuntimeException e) {
            got = e.getClass().getSimpleName();
        }
        if (!got.equals(due.getSimpleName())) {
            wrong++;
            System.out.println(test + ": " + what + " threw " + got + ", due is " + due.getSimpleName());
        }
    }

    /** All that look tells, so that a test can ask whether a call changed anything. */
    static String state(RasterRows x) {
        StringBuilder told = new StringBuilder();
        for (int which = 0; which <= 13; which++) {
            told.append(x.look(which)).append(' ');
        }
        for (int i = 0; i < Math.max(x.look(7), 0); i++) {
            told.append(x.seed(i)).append(',');
        }
        return told.toString();
    }

    void unchanged(String what, RasterRows x, String before) {
        yes(what + " leaves all as it was", state(x).equals(before));
    }

    /** Gives bytes one by one. */
    static void give(RasterRows x, int... bytes) {
        for (int b : bytes) {
            x.data(b, 1);
        }
    }

    static int giveRow(RasterRows x, int method, int... bytes) {
        x.method(method);
        give(x, bytes);
        return x.row();
    }

    void seedIs(String what, RasterRows x, int... due) {
        for (int i = 0; i < due.length; i++) {
            same(what + ", seed(" + i + ")", x.seed(i), due[i]);
        }
    }

    void finish() {
        if (asked == 0) {
            System.out.println(test + ": asked nothing");
            System.exit(1);
        }
        if (wrong != 0) {
            System.out.println(test + ": " + wrong + " of " + asked + " answers are not as due");
            System.exit(1);
        }
    }
}
