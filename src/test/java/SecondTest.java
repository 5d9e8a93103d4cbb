/** Promises 10, 30 and part 4: in which order a SECOND does what it does. */
public final class SecondTest {
    private static final Due due = new Due("SecondTest");

    public static void main(String[] args) {
        deadlinesAheadOfHedges();
        limitsAheadOfAll();
        hedgesAheadOfRetries();
        retriesAheadOfBulkheads();
        bulkheadsByNumber();
        bulkheadsAheadOfPlans();
        plansAheadOfAlarms();
        counts();
        due.done();
    }

    private static WaterWorks works(int delay) {
        WaterWorks x = new WaterWorks();
        x.station(50, 100, delay);
        return x;
    }

    private static void deadlinesAheadOfHedges() {
        WaterWorks x = works(9);
        x.guard(3, 2, 0, 0, 0);
        x.guard(5, 2, 0, 0, 0);
        Due.tower(x, 0, 1);
        Due.tower(x, 1, 0);
        x.order(0, 0, 0, 0, 0);
        due.is(x.second(2), 1, "LATE");
        due.is(x.count(6), 3, "no second one of the HEDGE within");
        x.order(1, 0, 0, 0, 0);
        due.is(x.second(2), 1, "LATE, in a HEDGE");
        due.are(Due.row(x.count(6), x.failure(1, 0)), Due.row(6, 12), "no second one of the HEDGE around");
    }

    /** One TOKEN a second: a HEDGE's second one finds that of its second. */
    private static void limitsAheadOfAll() {
        WaterWorks x = works(9);
        x.guard(5, 1, 0, 0, 0);
        x.guard(2, 1, 1, 0, 0);
        Due.tower(x, 0, 1);
        x.order(0, 0, 0, 0, 0);
        due.is(x.tokens(1), 0, "taken");
        x.second(1);
        due.are(Due.row(x.tokens(1), x.count(10), x.count(7)), Due.row(0, 2, 0), "taken by the second one");
    }

    /** A RETRY and a HEDGE, the RETRY's CALL begun first, both due in second 3, for one TOKEN. */
    private static void hedgesAheadOfRetries() {
        WaterWorks x = works(1);
        x.guard(4, 2, 2, 0, 0);
        x.guard(5, 3, 0, 0, 0);
        x.guard(2, 2, 1, 0, 0);
        x.fault(0, 0, 0, 9, 7);
        x.slow(0, 1, 0, 0, 9);
        Due.tower(x, 0, 2);
        Due.tower(x, 1, 2);
        Due.tower(x, 2);
        x.order(0, 0, 0, 0, 0);
        x.order(1, 0, 1, 1, 0);
        x.second(2);
        x.order(2, 0, 2, 1, 0);
        x.order(2, 0, 2, 1, 0);
        due.is(x.tokens(2), 0, "no TOKEN");
        x.second(1);
        due.are(Due.row(x.call(10, 2), x.call(10, 7), x.call(12, 2), x.call(12, 7)), Due.row(3, 0, 0, 2), "the HEDGE has the TOKEN");
        due.are(Due.row(x.outcome(0), x.failure(x.of(0, 1), 0)), Due.row(2, 11), "the RETRY is SHORT");
    }

    private static void retriesAheadOfBulkheads() {
        WaterWorks x = works(1);
        x.guard(1, 1, 1, 0, 0);
        x.guard(4, 2, 2, 0, 0);
        x.guard(2, 2, 1, 0, 0);
        x.fault(0, 0, 1, 1, 7);
        x.slow(0, 1, 0, 0, 2);
        Due.tower(x, 0, 2);
        Due.tower(x, 1, 2);
        Due.tower(x, 2);
        x.order(0, 0, 1, 1, 0);
        x.order(0, 0, 1, 1, 0);
        x.order(1, 0, 0, 0, 0);
        x.second(2);
        x.order(2, 0, 2, 1, 0);
        x.order(2, 0, 2, 1, 0);
        due.are(Due.row(x.tokens(2), x.bulkhead(0, 0), x.bulkhead(0, 1), x.call(4, 10)), Due.row(0, 1, 1, 2), "one WAITS, one PAUSES");
        x.second(1);
        due.are(Due.row(x.outcome(2), x.outcome(1)), Due.row(0, 2), "the RETRY has the TOKEN");
        due.is(x.failure(x.of(1, 1), 0), 11, "the one that waited is SHORT");
    }

    /** BULKHEAD 1 has the CALL with the lower number, BULKHEAD 0 goes first. */
    private static void bulkheadsByNumber() {
        WaterWorks x = works(2);
        x.guard(1, 1, 1, 0, 0);
        x.guard(1, 1, 1, 0, 0);
        Due.tower(x, 1);
        Due.tower(x, 0);
        for (int i = 0; i < 4; i++) {
            x.order(i / 2, 0, 0, 0, 0);
        }
        x.second(2);
        due.are(Due.row(x.call(6, 0), x.call(7, 0)), Due.row(3, 1), "by the GUARD's number");
    }

    private static void bulkheadsAheadOfPlans() {
        WaterWorks x = works(2);
        x.guard(1, 1, 1, 0, 0);
        Due.tower(x, 0);
        x.plan(0, 0, 0, 0, 2, 0, 100);
        x.order(0, 0, 0, 0, 0);
        x.order(0, 0, 0, 0, 0);
        x.second(2);
        due.are(Due.row(x.planned(0, 1), x.outcome(2), x.bulkhead(0, 2)), Due.row(2, 0, 0), "there is room to wait again");
        due.are(Due.row(x.call(3, 0), x.call(4, 0), x.call(4, 10)), Due.row(1, 2, 1), "it waits");
    }

    private static void plansAheadOfAlarms() {
        WaterWorks x = works(9);
        x.guard(1, 1, 1, 0, 0);
        Due.tower(x, 0);
        x.plan(0, 0, 0, 0, 1, 0, 100);
        x.alarm(2, 0, 1);
        x.second(1);
        due.is(x.alarmed(0, 1), 0, "one AT WORK");
        x.second(1);
        due.is(x.alarmed(0, 2), 2, "the one that waits since that second");
    }

    private static void counts() {
        WaterWorks x = works(3);
        x.station(1, 1, 1);
        x.fault(0, 0, 9, 9, 7);
        x.slow(0, 2, 0, 9, 1);
        x.slow(0, 2, 0, 9, 1);
        x.guard(8, 0, 0, 0, 0);
        x.guard(2, 1, 1, 0, 0);
        x.guard(3, 9, 0, 0, 0);
        Due.tower(x, 0, 1);
        x.on(2);
        x.plan(0, 0, 0, 0, 100, 0, 1);
        x.alarm(3, 0, 0);
        x.alarm(1, 0, 10);
        x.order(0, 0, 1, 4, 0);
        x.order(0, 0, 1, 4, 0);
        x.order(0, 0, 1, 5, 0);
        x.second(1);
        x.order(0, 1, 1, 1, 0);
        x.second(1);
        due.are(Due.counts(x), Due.row(2, 1, 2, 3, 1, 4, 9, 1, 1, 4, 1, 2, 1, 1, 1), "every count");
        due.is(x.now(), 2, "now");
    }
}
