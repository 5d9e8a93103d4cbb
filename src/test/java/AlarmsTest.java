/** Promises 14, 15 and the ALARMS of part 4. */
public final class AlarmsTest {
    private static final Due due = new Due("AlarmsTest");
    private static final int BIG = 1000000;

    public static void main(String[] args) {
        refusals();
        ofFuse();
        ofLevel();
        ofWaiting();
        ofOrder();
        due.done();
    }

    private static int[] alarmed(WaterWorks x, int alarm) {
        return Due.row(x.alarmed(alarm, 0), x.alarmed(alarm, 1), x.alarmed(alarm, 2));
    }

    private static void refusals() {
        WaterWorks x = new WaterWorks();
        due.is(x.alarm(0, 0, 9), WaterWorks.NONE, "no FUSE: NONE ahead of RANGE");
        due.is(x.alarm(1, 0, -1), WaterWorks.NONE, "no STATION");
        due.is(x.alarm(2, 0, 0), WaterWorks.NONE, "no BULKHEAD");
        x.station(1, 1, 1);
        x.guard(0, 1, 1, 0, 0);
        x.guard(1, 1, 1, 0, 0);
        int[][] none = {{0, 1, 0}, {0, -1, 0}, {0, 2, 0}, {1, 1, 0}, {1, -1, 0}, {2, 0, 1}, {2, 2, 1}, {2, -1, 1}};
        for (int[] n : none) {
            due.is(x.alarm(n[0], n[1], n[2]), WaterWorks.NONE, "alarm " + java.util.Arrays.toString(n));
        }
        int[][] range = {{-1, 0, 0}, {4, 0, 0}, {0, 0, 1}, {0, 0, -1}, {1, 0, -1}, {1, 0, BIG + 1}, {2, 1, 0}, {2, 1, 11},
            {3, 0, -1}, {3, 0, BIG + 1}, {3, 1, 0}, {3, -1, 0}, {Integer.MIN_VALUE, 9, 0}};
        for (int[] r : range) {
            due.is(x.alarm(r[0], r[1], r[2]), WaterWorks.RANGE, "alarm " + java.util.Arrays.toString(r));
        }
        due.is(x.alarmed(0, 0), WaterWorks.NONE, "none after refusals");
        int[][] good = {{0, 0, 0}, {1, 0, 0}, {1, 0, BIG}, {2, 1, 1}, {2, 1, 10}, {3, 0, 0}, {3, 0, BIG}, {3, 0, 1}, {3, 0, 2}, {3, 0, 3}};
        for (int i = 0; i < 10; i++) {
            due.is(x.alarm(good[i][0], good[i][1], good[i][2]), i, "alarm " + i);
        }
        due.is(x.alarm(3, 0, 0), WaterWorks.FULL, "alarm 11");
        due.is(x.alarm(3, 1, 0), WaterWorks.RANGE, "RANGE ahead of FULL");
        due.is(x.alarm(0, 9, 0), WaterWorks.NONE, "NONE ahead of FULL");
        due.is(x.count(14), 0, "all are off");
        int[] wrong = {-1, 10, Integer.MIN_VALUE, Integer.MAX_VALUE};
        for (int i : wrong) {
            due.is(x.alarmed(i, 0), WaterWorks.NONE, "alarmed(" + i + ", 0)");
            due.is(x.alarmed(0, i < 0 ? i : 3), WaterWorks.NONE, "alarmed: what");
        }
        due.are(alarmed(x, 9), Due.row(0, 0, -1), "off at first");
        x.second(1);
        due.are(Due.row(x.alarmed(1, 0), x.alarmed(2, 0), x.count(14)), Due.row(0, 1, 1), "LEVEL 1: below 1000000 alone");
    }

    private static void ofFuse() {
        WaterWorks x = new WaterWorks();
        x.station(50, 100, 2);
        x.guard(0, 1, 3, 0, 0);
        x.fault(0, 0, 2, 2, 7);
        x.fault(0, 0, 7, 7, 7);
        x.alarm(0, 0, 0);
        Due.tower(x, 0);
        x.order(0, 0, 0, 0, 0);
        x.second(1);
        due.are(alarmed(x, 0), Due.row(0, 0, -1), "CLOSED");
        x.second(1);
        due.are(alarmed(x, 0), Due.row(1, 1, 2), "it opened in that second");
        due.is(x.count(14), 1, "on");
        x.second(3);
        due.are(alarmed(x, 0), Due.row(1, 1, 2), "on still, and it rang once");
        x.order(0, 0, 0, 0, 0);
        x.second(1);
        due.are(alarmed(x, 0), Due.row(0, 1, 2), "TRYING is not OPEN");
        x.second(1);
        due.are(alarmed(x, 0), Due.row(1, 2, 7), "once more");
    }

    private static void ofLevel() {
        WaterWorks x = new WaterWorks();
        x.station(50, 100, 1);
        x.station(0, 100, 1);
        x.tower();
        x.alarm(1, 0, 40);
        x.order(0, 0, 1, 10, 0);
        x.second(1);
        due.are(alarmed(x, 0), Due.row(0, 0, -1), "40 is not below 40");
        x.order(0, 0, 1, 1, 0);
        due.are(alarmed(x, 0), Due.row(0, 0, -1), "looked at in a SECOND");
        x.second(1);
        due.are(alarmed(x, 0), Due.row(1, 1, 2), "39 is");
        x.order(0, 0, 2, 1, 0);
        x.second(1);
        due.are(alarmed(x, 0), Due.row(0, 1, 2), "off");
        x.alarm(1, 1, 1);
        due.is(x.count(14), 0, "off till the next SECOND");
        x.second(1);
        due.are(alarmed(x, 1), Due.row(1, 1, 4), "of another STATION");
    }

    private static void ofWaiting() {
        WaterWorks x = new WaterWorks();
        x.station(50, 100, 9);
        x.guard(1, 1, 3, 0, 0);
        Due.tower(x, 0);
        x.alarm(2, 0, 2);
        x.order(0, 0, 0, 0, 0);
        x.order(0, 0, 0, 0, 0);
        x.second(1);
        due.are(alarmed(x, 0), Due.row(0, 0, -1), "one waits");
        x.order(0, 0, 0, 0, 0);
        x.second(1);
        due.are(alarmed(x, 0), Due.row(1, 1, 2), "two wait");
        x.order(0, 0, 0, 0, 0);
        x.second(1);
        due.are(alarmed(x, 0), Due.row(1, 1, 2), "three wait");
        x.cancel(1);
        x.cancel(2);
        x.second(1);
        due.are(alarmed(x, 0), Due.row(0, 1, 2), "one waits again");
    }

    private static void ofOrder() {
        WaterWorks x = new WaterWorks();
        x.station(50, 100, 4);
        x.tower();
        x.alarm(3, 0, 2);
        x.second(3);
        x.order(0, 0, 0, 0, 0);
        x.second(2);
        x.order(0, 0, 0, 0, 0);
        due.are(alarmed(x, 0), Due.row(0, 0, -1), "2 seconds ago");
        x.second(1);
        due.are(alarmed(x, 0), Due.row(1, 1, 6), "3 seconds ago");
        x.second(1);
        due.are(alarmed(x, 0), Due.row(0, 1, 6), "it ENDED");
        x.second(1);
        due.are(alarmed(x, 0), Due.row(1, 2, 8), "the other one");
        x.cancel(1);
        x.second(1);
        due.are(alarmed(x, 0), Due.row(0, 2, 8), "it was cancelled");
    }
}
