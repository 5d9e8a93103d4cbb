/** Promises 11 to 13 and the PLANS of part 4. */
public final class PlansTest {
    private static final Due due = new Due("PlansTest");
    private static final int BIG = 1000000;

    public static void main(String[] args) {
        refusals();
        comesDue();
        passes();
        misses();
        byNumberBehindTries();
        due.done();
    }

    private static int[] planned(WaterWorks x, int plan) {
        return Due.row(x.planned(plan, 0), x.planned(plan, 1), x.planned(plan, 2), x.planned(plan, 3), x.planned(plan, 4));
    }

    private static WaterWorks works() {
        WaterWorks x = new WaterWorks();
        x.station(50, 100, 1);
        x.tower();
        return x;
    }

    private static void refusals() {
        WaterWorks x = new WaterWorks();
        due.is(x.plan(0, 0, 9, 9, 0, -1, -2), WaterWorks.NONE, "no tower, no station");
        x.tower();
        due.is(x.plan(0, 0, 9, 9, 0, -1, -2), WaterWorks.NONE, "NONE ahead of RANGE");
        x.station(50, 100, 1);
        due.is(x.plan(1, 0, 0, 0, 1, 0, 0), WaterWorks.NONE, "tower 1");
        due.is(x.plan(-1, 0, 0, 0, 1, 0, 0), WaterWorks.NONE, "tower -1");
        due.is(x.plan(0, 1, 0, 0, 1, 0, 0), WaterWorks.NONE, "station 1");
        due.is(x.plan(0, -1, 0, 0, 1, 0, 0), WaterWorks.NONE, "station -1");
        int[][] range = {{-1, 0, 1, 0, 0}, {3, 0, 1, 0, 0}, {0, 1, 1, 0, 0}, {1, -1, 1, 0, 0}, {2, BIG + 1, 1, 0, 0},
            {0, 0, 0, 0, 0}, {0, 0, 1001, 0, 0}, {0, 0, 1, -1, 0}, {0, 0, 1, 5, 4}};
        for (int[] r : range) {
            due.is(x.plan(0, 0, r[0], r[1], r[2], r[3], r[4]), WaterWorks.RANGE, "plan " + java.util.Arrays.toString(r));
        }
        due.is(x.count(13), 0, "plans after refusals");
        due.is(x.plan(0, 0, 2, BIG, 1000, 0, Integer.MAX_VALUE), 0, "the greatest plan");
        for (int i = 1; i < 12; i++) {
            due.is(x.plan(0, 0, 0, 0, 1, 0, 0), i, "plan " + i);
        }
        due.is(x.plan(0, 0, 0, 0, 1, 0, 0), WaterWorks.FULL, "plan 13");
        due.is(x.plan(0, 0, 0, 0, 0, 0, 0), WaterWorks.RANGE, "RANGE ahead of FULL");
        due.is(x.count(13), 12, "plans");
        int[] none = {-1, 12, Integer.MIN_VALUE, Integer.MAX_VALUE};
        for (int i : none) {
            due.is(x.planned(i, 0), WaterWorks.NONE, "planned(" + i + ", 0)");
            due.is(x.stop(i), WaterWorks.NONE, "stop(" + i + ")");
            due.is(x.planned(0, i < 0 ? i : 5), WaterWorks.NONE, "planned: what");
        }
    }

    private static void comesDue() {
        WaterWorks x = works();
        x.second(5);
        x.plan(0, 0, 1, 3, 4, 0, 100);
        due.are(planned(x, 0), Due.row(0, -1, 0, 0, 1), "at first");
        x.second(3);
        due.are(planned(x, 0), Due.row(0, -1, 0, 0, 1), "not due");
        x.second(1);
        due.are(planned(x, 0), Due.row(1, 0, 0, 0, 1), "due at EVERY");
        due.are(Due.order(x, 0), Due.row(0, -1, -1, 9, -1), "its ORDER");
        due.is(x.second(4), 1, "2 EVERY");
        due.are(planned(x, 0), Due.row(2, 1, 0, 0, 1), "due again");
        due.are(Due.effect(x, 0), Due.row(0, 0, 0, -3, 10), "KEY 0");
        due.is(x.second(3), 1, "the second one ENDS");
        due.is(x.stop(0), 2, "stop");
        due.is(x.stop(0), WaterWorks.STATE, "stopped already");
        x.second(9);
        due.are(planned(x, 0), Due.row(2, 1, 0, 0, 0), "no more");
        due.is(x.count(13), 1, "it is still there");
    }

    private static void passes() {
        WaterWorks x = works();
        x.plan(0, 0, 1, 10, 2, 30, 40);
        x.plan(0, 0, 1, 10, 1, 50, 50);
        x.second(2);
        due.are(planned(x, 1), Due.row(1, 0, 0, 1, 1), "first at 50, then it PASSED");
        due.are(planned(x, 0), Due.row(1, 1, 0, 0, 1), "40 is not above HIGH");
        x.second(2);
        due.are(planned(x, 0), Due.row(2, 2, 0, 0, 1), "30 is not below LOW");
        x.second(4);
        due.are(planned(x, 0), Due.row(2, 2, 0, 2, 1), "20 is");
        due.is(x.level(0), 20, "the LEVEL");
    }

    private static void misses() {
        WaterWorks x = works();
        x.plan(0, 0, 1, 0, 1, 0, 100);
        x.plan(0, 0, 1, 0, 1, 60, 100);
        x.plan(0, 0, 1, 0, 2, 0, 100);
        due.is(x.second(40), 58, "sixty ORDERS, two of them UNDER WAY");
        due.are(planned(x, 0), Due.row(40, 58, 0, 0, 1), "every second");
        due.are(planned(x, 1), Due.row(0, -1, 0, 40, 1), "none");
        due.are(planned(x, 2), Due.row(20, 59, 0, 0, 1), "every other second");
        due.is(x.count(5), 60, "orders");
        due.is(x.second(4), 2, "no more than these");
        due.are(planned(x, 0), Due.row(40, 58, 4, 0, 1), "MISSED");
        due.are(planned(x, 1), Due.row(0, -1, 0, 44, 1), "PASSED, not MISSED");
        due.are(planned(x, 2), Due.row(20, 59, 2, 0, 1), "MISSED");
    }

    /** The LEVEL is that behind the TRIES of the second; an ORDER that ENDS at once counts for second. */
    private static void byNumberBehindTries() {
        WaterWorks x = works();
        x.guard(2, 1, 1, 0, 0);
        Due.tower(x, 0);
        x.order(0, 0, 1, 45, 0);
        x.plan(1, 0, 0, 0, 1, 0, 5);
        x.plan(1, 0, 2, 1, 1, 0, 5);
        due.is(x.second(1), 2, "the TAKE, and the second PLAN's, which is SHORT");
        due.are(Due.row(x.outcome(1), x.outcome(2)), Due.row(0, 2), "the first PLAN has the TOKEN");
        due.are(Due.row(x.planned(0, 1), x.planned(1, 1)), Due.row(1, 2), "the latest of each");
    }
}
