/** Promise 18, of: its answer (NONE: it is not GOOD), its FAILURE (NONE), when it began, when it ENDED or was cancelled. */
public final class Promise18Test extends Told {
    public static void main(String[] args) {
        promise("18, of");
        noSuchNumber();
        answer();
        failure();
        began();
        ended();
        done();
    }

    private static void works() {
        make("station", 50, 100, 2);
        make("tower");
    }

    private static void noSuchNumber() {
        sentence("NONE: no such ORDER, no such what");
        works();
        make("order", 0, 0, READ, 0, 0);
        make("second", 2);
        int[] orders = {-1, 1, MIN, MAX};
        for (int order : orders) {
            for (int what = 0; what < 4; what++) {
                due(NONE, "of", order, what);
            }
        }
        int[] whats = {-1, 4, MIN, MAX};
        for (int what : whats) {
            due(NONE, "of", 0, what);
        }
        sentence("NONE: all sixty are there");
        works();
        makeAll(60, "order", 0, 0, READ, 0, 0);
        due(0, "of", 59, 2);
        due(NONE, "of", 60, 2);
    }

    private static void answer() {
        sentence("its answer: of READ the LEVEL then, 0 too");
        make("station", 0, 100, 2);
        make("tower");
        make("order", 0, 0, READ, 0, 0);
        make("order", 0, 0, GIVE, 100, 0);
        make("order", 0, 0, READ, 0, 0);
        make("second", 2);
        due(0, "of", 0, 0);
        due(100, "of", 1, 0);
        due(100, "of", 2, 0);
        sentence("its answer: of TAKE and GIVE v, 0 too");
        works();
        make("order", 0, 0, TAKE, 0, 0);
        make("order", 0, 0, GIVE, 0, 0);
        make("order", 0, 0, TAKE, 50, 0);
        make("order", 0, 0, GIVE, 100, 0);
        make("second", 2);
        due(0, "of", 0, 0);
        due(0, "of", 1, 0);
        due(50, "of", 2, 0);
        due(100, "of", 3, 0);
        sentence("NONE: it is UNDER WAY");
        works();
        make("order", 0, 0, READ, 0, 0);
        make("second", 1);
        due(NONE, "of", 0, 0);
        sentence("NONE: it ENDED with a FAILURE");
        works();
        make("order", 0, 0, TAKE, 51, 0);
        make("second", 2);
        due(NONE, "of", 0, 0);
        sentence("NONE: it was cancelled");
        works();
        make("order", 0, 0, READ, 0, 0);
        make("cancel", 0);
        due(NONE, "of", 0, 0);
        sentence("TAKE: it fails if the LEVEL is below v: not at v");
        works();
        make("order", 0, 0, TAKE, 50, 0);
        make("order", 0, 0, TAKE, 1, 0);
        make("order", 0, 0, TAKE, 0, 0);
        make("second", 2);
        order(0, 1, 50, NONE, 0, 2);
        order(1, 2, NONE, 0, 0, 2);
        order(2, 1, 0, NONE, 0, 2);
        sentence("GIVE: it fails if the LEVEL would be above the CAPACITY: not at it");
        works();
        make("order", 0, 0, GIVE, 51, 0);
        make("order", 0, 0, GIVE, 50, 0);
        make("order", 0, 0, GIVE, 1, 0);
        make("order", 0, 0, GIVE, 0, 0);
        make("second", 2);
        order(0, 2, NONE, 0, 0, 2);
        order(1, 1, 50, NONE, 0, 2);
        order(2, 2, NONE, 1, 0, 2);
        order(3, 1, 0, NONE, 0, 2);
        due(OVERFULL, "failure", 0, 0);
        due(OVERFULL, "failure", 1, 0);
        sentence("what an ACT finds is that of the second in which its TRY ENDS");
        works();
        make("slow", 0, READ, 0, 0, 3);
        make("order", 0, 0, READ, 0, 0);
        make("second", 2);
        make("order", 0, 0, TAKE, 7, 0);
        make("second", 3);
        due(43, "of", 0, 0);
    }

    private static void failure() {
        sentence("its FAILURE: NONE while it is UNDER WAY, if it is GOOD, if it was cancelled");
        works();
        makeAll(2, "order", 0, 0, READ, 0, 0);
        due(NONE, "of", 0, 1);
        make("cancel", 1);
        make("second", 2);
        due(NONE, "of", 0, 1);
        due(NONE, "of", 1, 1);
        sentence("its FAILURE: FAILURE 0, and the latest");
        works();
        makeAll(2, "order", 0, 0, TAKE, 51, 0);
        make("second", 2);
        due(0, "of", 0, 1);
        due(1, "of", 1, 1);
        sentence("its FAILURE: NONE, if it is GOOD by a FALLBACK");
        make("station", 50, 100, 2);
        make("guard", FALLBACK, 0, 7, 0, ANY);
        tower(0);
        make("order", 0, 0, TAKE, 51, 0);
        make("second", 2);
        due(7, "of", 0, 0);
        due(NONE, "of", 0, 1);
        due(1, "count", 7);
        sentence("its FAILURE is that as which its first CALL ENDED, not one within");
        make("station", 50, 100, 2);
        make("guard", TRANSLATOR, 0, WORD, 0, ANY);
        tower(0);
        make("order", 0, 0, TAKE, 51, 0);
        make("second", 2);
        due(1, "of", 0, 1);
    }

    private static void began() {
        sentence("the second in which it began, 0 too");
        works();
        make("order", 0, 0, READ, 0, 0);
        make("second", 5);
        make("order", 0, 0, READ, 0, 0);
        make("second", 5);
        due(0, "of", 0, 2);
        due(5, "of", 1, 2);
    }

    private static void ended() {
        sentence("in which it ENDED: NONE till then");
        works();
        make("order", 0, 0, READ, 0, 0);
        due(NONE, "of", 0, 3);
        make("second", 1);
        due(NONE, "of", 0, 3);
        make("second", 1);
        due(2, "of", 0, 3);
        make("second", 1);
        due(2, "of", 0, 3);
        sentence("in which it ENDED: at once, in second 0");
        make("station", 50, 100, 2);
        make("guard", LIMIT, 1, 1, 0, 0);
        tower(0);
        makeAll(2, "order", 0, 0, READ, 0, 0);
        order(1, 2, NONE, 0, 0, 0);
        sentence("in which it was cancelled");
        works();
        make("order", 0, 0, READ, 0, 0);
        make("second", 1);
        make("cancel", 0);
        make("second", 1);
        due(1, "of", 0, 3);
    }
}
