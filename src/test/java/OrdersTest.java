/** Promises 8 to 10, 16 to 18, 20, 27, 28, 30: orders without guards, acts, keys, faults, slowness, cancel, second. */
public final class OrdersTest {
    private static final Due due = new Due("OrdersTest");
    private static final int BIG = 1000000;

    public static void main(String[] args) {
        refusals();
        sixty();
        acts();
        levels();
        keys();
        faults();
        slowness();
        cancels();
        seconds();
        noSuchNumber();
        due.done();
    }

    private static void refusals() {
        WaterWorks x = new WaterWorks();
        due.is(x.order(0, 0, 9, -1, -1), WaterWorks.NONE, "no tower, no station");
        x.tower();
        due.is(x.order(0, 0, 9, -1, -1), WaterWorks.NONE, "no station: NONE ahead of RANGE");
        x.station(5, 9, 1);
        int[][] none = {{-1, 0}, {1, 0}, {0, -1}, {0, 1}};
        for (int[] n : none) {
            due.is(x.order(n[0], n[1], 0, 0, 0), WaterWorks.NONE, "tower " + n[0] + ", station " + n[1]);
        }
        int[][] range = {{-1, 0, 0}, {3, 0, 0}, {0, 1, 0}, {0, -1, 0}, {1, -1, 0}, {1, BIG + 1, 0}, {2, -1, 0},
            {2, BIG + 1, 0}, {0, 0, -1}, {1, 0, Integer.MIN_VALUE}};
        for (int[] r : range) {
            due.is(x.order(0, 0, r[0], r[1], r[2]), WaterWorks.RANGE, "order " + java.util.Arrays.toString(r));
        }
        due.are(Due.row(x.count(5), x.count(6)), Due.row(0, 0), "nothing after refusals");
        due.is(x.order(0, 0, 1, BIG, Integer.MAX_VALUE), 0, "the greatest order");
        due.is(x.order(0, 0, 2, 0, 0), 1, "the least GIVE");
    }

    private static void sixty() {
        WaterWorks x = new WaterWorks();
        x.station(5, 9, 1);
        x.tower();
        for (int i = 0; i < 60; i++) {
            due.is(x.order(0, 0, 0, 0, 0), i, "order " + i);
        }
        due.is(x.order(0, 0, 0, 0, 0), WaterWorks.FULL, "order 61");
        due.is(x.order(0, 0, 3, 0, 0), WaterWorks.RANGE, "RANGE ahead of FULL");
        due.is(x.order(0, 1, 0, 0, 0), WaterWorks.NONE, "NONE ahead of FULL");
        due.are(Due.row(x.count(5), x.count(6), x.count(9), x.count(10), x.count(11)), Due.row(60, 60, 60, 60, 60), "sixty");
        due.is(x.second(1), 60, "sixty END");
        due.is(x.order(0, 0, 0, 0, 0), WaterWorks.FULL, "those that ENDED count");
    }

    private static void acts() {
        WaterWorks x = new WaterWorks();
        x.station(5, 9, 2);
        x.tower();
        x.order(0, 0, 0, 0, 7);
        x.order(0, 0, 1, 6, 0);
        x.order(0, 0, 1, 5, 3);
        x.order(0, 0, 2, 10, 0);
        x.order(0, 0, 2, 9, 4);
        x.order(0, 0, 0, 0, 0);
        x.order(0, 0, 2, 0, 0);
        due.are(Due.call(x, 2), Due.row(2, 0, -1, -1, 0, 0, -1, 0, -1, -1, 0), "a TRY UNDER WAY");
        due.are(Due.order(x, 2), Due.row(0, -1, -1, 0, -1), "an ORDER UNDER WAY");
        due.is(x.second(1), 0, "the DELAY is 2");
        due.is(x.level(0), 5, "the LEVEL till then");
        due.is(x.second(1), 7, "all END");
        due.are(Due.order(x, 0), Due.row(1, 5, -1, 0, 2), "READ");
        due.are(Due.order(x, 1), Due.row(2, -1, 0, 0, 2), "TAKE more than there is");
        due.are(Due.order(x, 2), Due.row(1, 5, -1, 0, 2), "TAKE all");
        due.are(Due.order(x, 3), Due.row(2, -1, 1, 0, 2), "GIVE too much");
        due.are(Due.order(x, 4), Due.row(1, 9, -1, 0, 2), "GIVE up to the CAPACITY");
        due.are(Due.order(x, 5), Due.row(1, 9, -1, 0, 2), "READ behind these");
        due.are(Due.order(x, 6), Due.row(1, 0, -1, 0, 2), "GIVE 0");
        due.are(Due.failure(x, 0), Due.row(5, 2, -1, 0, -1, -1), "DRY");
        due.are(Due.failure(x, 1), Due.row(6, 2, -1, 0, -1, -1), "FULL");
        due.are(Due.call(x, 1), Due.row(1, 0, -1, -1, 0, 0, 2, 2, -1, 0, 0), "a TRY that failed");
        due.are(Due.call(x, 4), Due.row(4, 0, -1, -1, 0, 0, 2, 1, 9, -1, 0), "a GOOD TRY");
        due.are(Due.effect(x, 0), Due.row(0, 2, 3, -5, 2), "the first EFFECT");
        due.are(Due.effect(x, 1), Due.row(0, 4, 4, 9, 2), "the second EFFECT");
        due.are(Due.effect(x, 2), Due.row(0, 6, 0, 0, 2), "an EFFECT of 0");
        due.are(Due.counts(x), Due.row(1, 0, 0, 0, 1, 7, 7, 2, 3, 0, 0, 0, 0, 0, 0), "counts");
    }

    private static void levels() {
        WaterWorks x = new WaterWorks();
        x.station(5, 9, 1);
        x.station(1, 3, 1);
        x.tower();
        x.order(0, 1, 2, 2, 0);
        x.order(0, 0, 1, 4, 0);
        x.second(1);
        due.are(Due.row(x.level(0), x.level(1)), Due.row(1, 3), "each STATION its LEVEL");
        due.are(Due.effect(x, 0), Due.row(1, 0, 0, 2, 1), "an EFFECT at STATION 1");
        due.are(Due.effect(x, 1), Due.row(0, 1, 0, -4, 1), "an EFFECT at STATION 0");
    }

    private static void keys() {
        WaterWorks x = new WaterWorks();
        x.station(50, 90, 1);
        x.station(50, 90, 1);
        x.tower();
        x.order(0, 0, 1, 10, 5);
        x.order(0, 0, 1, 20, 5);
        x.order(0, 0, 2, 7, 5);
        x.order(0, 0, 0, 0, 5);
        x.order(0, 1, 1, 3, 5);
        x.order(0, 0, 1, 90, 5);
        x.order(0, 0, 1, 1, 0);
        x.order(0, 0, 1, 1, 0);
        x.order(0, 0, 1, 41, 6);
        x.second(1);
        due.are(Due.row(x.of(0, 0), x.of(1, 0), x.of(2, 0), x.of(3, 0), x.of(4, 0), x.of(5, 0)),
            Due.row(10, 10, 10, 40, 3, 10), "answers of KEY 5");
        due.are(Due.row(x.level(0), x.level(1), x.count(8)), Due.row(38, 47, 4), "KEY 5 moves once, KEY 0 each time");
        due.is(x.outcome(8), 2, "KEY 6 is dry");
        x.fault(0, 1, 3, 3, 7);
        x.order(0, 0, 1, 8, 6);
        x.second(1);
        due.are(Due.row(x.outcome(9), x.level(0)), Due.row(1, 30), "a KEY whose ACT failed is free");
        x.order(0, 0, 1, 8, 6);
        x.second(1);
        due.is(x.outcome(10), 2, "a FAULT is ahead of a KEY");
    }

    private static void faults() {
        WaterWorks x = new WaterWorks();
        x.station(50, 90, 2);
        x.station(50, 90, 2);
        x.tower();
        x.fault(0, 1, 4, 5, 2);
        x.fault(0, 1, 5, 7, 3);
        x.fault(0, 1, 4, 4, 7);
        for (int i = 0; i < 8; i++) {
            x.order(0, 0, 1, 1, 0);
            x.order(0, 1, 1, 1, 0);
            x.order(0, 0, 2, 1, 0);
            x.second(1);
        }
        x.second(2);
        int[] kinds = new int[8];
        for (int i = 0; i < 8; i++) {
            kinds[i] = x.failure(x.of(3 * i, 1), 0);
            due.is(x.outcome(3 * i + 1), 1, "another STATION has no FAULT");
            due.is(x.outcome(3 * i + 2), 1, "another ACT has no FAULT");
        }
        due.are(kinds, Due.row(-1, -1, 2, 2, 3, 3, -1, -1), "the first FAULT of the second in which a TRY ENDS");
        due.are(Due.failure(x, 0), Due.row(2, 4, -1, 0, -1, -1), "a FAILURE by a FAULT");
        due.is(x.level(0), 54, "a FAULT moves nothing");
    }

    private static void slowness() {
        WaterWorks x = new WaterWorks();
        x.station(50, 90, 2);
        x.station(50, 90, 2);
        x.tower();
        x.slow(0, 1, 1, 2, 3);
        x.slow(0, 1, 2, 2, 10);
        for (int i = 0; i < 4; i++) {
            x.order(0, 0, 1, 1, 0);
            x.order(0, 1, 1, 1, 0);
            x.order(0, 0, 0, 0, 0);
            x.second(1);
        }
        x.second(20);
        int[] took = new int[4];
        for (int i = 0; i < 4; i++) {
            took[i] = x.of(3 * i, 3) - x.of(3 * i, 2);
            due.is(x.of(3 * i + 1, 3) - i, 2, "another STATION is not slow");
            due.is(x.of(3 * i + 2, 3) - i, 2, "another ACT is not slow");
        }
        due.are(took, Due.row(2, 5, 15, 2), "all SLOWNESS of the second in which a TRY BEGINS");
    }

    private static void cancels() {
        WaterWorks x = new WaterWorks();
        x.station(50, 90, 2);
        x.guard(4, 2, 1, 0, 0);
        x.guard(3, 50, 0, 0, 0);
        Due.tower(x, 0, 1);
        due.is(x.cancel(0), WaterWorks.NONE, "cancel of none");
        x.order(0, 0, 1, 1, 0);
        x.order(0, 0, 1, 1, 0);
        due.is(x.cancel(-1), WaterWorks.NONE, "cancel(-1)");
        due.is(x.cancel(2), WaterWorks.NONE, "cancel(2)");
        x.second(1);
        due.is(x.cancel(0), 3, "three CALLS");
        due.is(x.cancel(0), WaterWorks.STATE, "cancelled already");
        due.are(Due.order(x, 0), Due.row(4, -1, -1, 0, 1), "a cancelled ORDER");
        due.are(Due.call(x, 0), Due.row(0, 0, -1, 0, -1, 0, 1, 3, -1, -1, 0), "TAKEN BACK");
        due.are(Due.call(x, 2), Due.row(0, 2, 1, -1, 0, 0, 1, 3, -1, -1, 0), "a TRY that is TAKEN BACK");
        due.are(Due.row(x.count(9), x.count(10), x.count(11)), Due.row(3, 1, 1), "the other ORDER");
        due.is(x.second(1), 1, "a cancelled ORDER does not END");
        due.is(x.cancel(1), WaterWorks.STATE, "it ENDED");
        due.are(Due.row(x.level(0), x.count(8)), Due.row(49, 1), "what is TAKEN BACK moves nothing");
    }

    private static void seconds() {
        WaterWorks x = new WaterWorks();
        int[] refused = {0, -1, 101, Integer.MIN_VALUE, Integer.MAX_VALUE};
        for (int n : refused) {
            due.is(x.second(n), WaterWorks.RANGE, "second(" + n + ")");
        }
        due.is(x.now(), 0, "TIME after refusals");
        x.station(0, 9, 100);
        x.station(0, 9, 1);
        x.tower();
        x.order(0, 0, 2, 1, 0);
        x.order(0, 0, 1, 5, 0);
        x.order(0, 1, 2, 1, 0);
        due.is(x.second(99), 1, "99 seconds");
        due.is(x.second(1), 2, "one more: GOOD and with a FAILURE");
        due.is(x.second(100), 0, "nothing ENDS");
        due.is(x.now(), 200, "TIME");
        due.are(Due.order(x, 0), Due.row(1, 1, -1, 0, 100), "at its second");
    }

    private static void noSuchNumber() {
        WaterWorks x = new WaterWorks();
        x.station(0, 9, 1);
        x.tower();
        x.order(0, 0, 2, 1, 0);
        x.order(0, 0, 1, 5, 0);
        x.second(1);
        int[] wrong = {-1, 2, Integer.MIN_VALUE, Integer.MAX_VALUE};
        for (int i : wrong) {
            due.is(x.outcome(i), WaterWorks.NONE, "outcome(" + i + ")");
            due.is(x.of(i, 2), WaterWorks.NONE, "of(" + i + ", 2)");
            due.is(x.call(i, 0), WaterWorks.NONE, "call(" + i + ", 0)");
            due.is(x.failure(i < 0 ? i : i - 1, 0), WaterWorks.NONE, "failure(" + i + ", 0)");
            due.is(x.effect(i < 0 ? i : i - 1, 0), WaterWorks.NONE, "effect(" + i + ", 0)");
            due.is(x.level(i), WaterWorks.NONE, "level(" + i + ")");
            due.is(x.call(0, i < 0 ? i : 11), WaterWorks.NONE, "call: what");
            due.is(x.of(0, i < 0 ? i : 4), WaterWorks.NONE, "of: what");
            due.is(x.failure(0, i < 0 ? i : 6), WaterWorks.NONE, "failure: what");
            due.is(x.effect(0, i < 0 ? i : 5), WaterWorks.NONE, "effect: what");
        }
    }
}
