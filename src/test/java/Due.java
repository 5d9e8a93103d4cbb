/** Counts the answers that are not as due; a test ends with done(). */
final class Due {
    private final String test;
    private int seen = 0;
    private int wrong = 0;

    Due(String test) {
        this.test = test;
    }

    void is(int got, int want, String what) {
        seen++;
        if (got != want) {
            wrong++;
            System.out.println(test + ": " + what + " answered " + got + ", due is " + want);
        }
    }

    void holds(boolean so, String what) {
        is(so ? 1 : 0, 1, what);
    }

    /** The answers of several calls, in a row. */
    void are(int[] got, int[] want, String what) {
        is(got.length, want.length, what + ": how many");
        for (int i = 0; i < got.length && i < want.length; i++) {
            is(got[i], want[i], what + " [" + i + "]");
        }
    }

    void done() {
        System.out.println(test + ": " + (wrong == 0 ? seen + " answers, all as due" : wrong + " answers are not as due"));
        if (wrong != 0) {
            System.exit(1);
        }
    }

    static int tower(WaterWorks x, int... guards) {
        for (int guard : guards) {
            x.on(guard);
        }
        return x.tower();
    }

    /** KIND, second, GUARD, STATION, CAUSE, SUPPRESSED under. */
    static int[] failure(WaterWorks x, int i) {
        int[] all = new int[6];
        for (int what = 0; what < all.length; what++) {
            all[what] = x.failure(i, what);
        }
        return all;
    }

    /** ORDER, DEPTH, parent, GUARD, STATION, BEGAN, ENDED, how, answer, FAILURE, rests. */
    static int[] call(WaterWorks x, int i) {
        int[] all = new int[11];
        for (int what = 0; what < all.length; what++) {
            all[what] = x.call(i, what);
        }
        return all;
    }

    /** STATION, ORDER, KEY, litres, second. */
    static int[] effect(WaterWorks x, int i) {
        int[] all = new int[5];
        for (int what = 0; what < all.length; what++) {
            all[what] = x.effect(i, what);
        }
        return all;
    }

    /** Outcome, answer, FAILURE, began, ENDED. */
    static int[] order(WaterWorks x, int i) {
        return row(x.outcome(i), x.of(i, 0), x.of(i, 1), x.of(i, 2), x.of(i, 3));
    }

    static int[] counts(WaterWorks x) {
        int[] all = new int[15];
        for (int what = 0; what < all.length; what++) {
            all[what] = x.count(what);
        }
        return all;
    }

    static int[] row(int... numbers) {
        return numbers;
    }
}
