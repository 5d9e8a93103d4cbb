/** The DEADLINE of parts 3 and 4. */
public final class DeadlineTest {
    private static final Due due = new Due("DeadlineTest");

    public static void main(String[] args) {
        lateAndInTime();
        takesAllBack();
        endedByWhatCameOfIt();
        due.done();
    }

    private static void lateAndInTime() {
        WaterWorks x = new WaterWorks();
        x.station(50, 100, 3);
        x.guard(3, 3, 0, 0, 0);
        x.guard(3, 2, 0, 0, 0);
        Due.tower(x, 0);
        Due.tower(x, 1);
        x.order(0, 0, 1, 7, 0);
        x.order(1, 0, 1, 9, 0);
        due.is(x.second(1), 0, "a second");
        due.is(x.second(1), 1, "it is due");
        due.are(Due.order(x, 1), Due.row(2, -1, 0, 0, 2), "LATE");
        due.are(Due.failure(x, 0), Due.row(12, 2, 1, -1, -1, -1), "its FAILURE");
        due.are(Due.call(x, 3), Due.row(1, 1, 2, -1, 0, 0, 2, 3, -1, -1, 0), "its TRY is TAKEN BACK");
        due.is(x.second(1), 1, "the other one");
        due.are(Due.order(x, 0), Due.row(1, 7, -1, 0, 3), "TRIES are ahead of DEADLINES");
        x.second(3);
        due.are(Due.row(x.level(0), x.count(8), x.count(7)), Due.row(43, 1, 1), "one moved water");
    }

    /** Within it a RETRY PAUSES, then a BULKHEAD waits. */
    private static void takesAllBack() {
        WaterWorks x = new WaterWorks();
        x.station(50, 100, 1);
        x.guard(3, 4, 0, 0, 0);
        x.guard(4, 3, 9, 0, 0);
        x.guard(1, 1, 3, 0, 0);
        x.guard(3, 2, 0, 0, 0);
        x.slow(0, 1, 0, 0, 9);
        Due.tower(x, 0, 1);
        Due.tower(x, 3, 2);
        x.fault(0, 0, 0, 9, 7);
        x.order(0, 0, 0, 0, 0);
        x.order(1, 0, 1, 1, 0);
        x.order(1, 0, 1, 1, 0);
        due.is(x.second(2), 2, "both of the BULKHEAD are LATE");
        due.are(Due.row(x.bulkhead(2, 0), x.bulkhead(2, 1), x.call(1, 10)), Due.row(0, 0, 2), "neither AT WORK nor WAITING");
        due.is(x.second(2), 1, "the PAUSE is TAKEN BACK");
        due.are(Due.row(x.call(1, 7), x.call(1, 10), x.call(1, 6)), Due.row(3, 0, 4), "the RETRY");
        due.is(x.failure(x.of(0, 1), 0), 12, "LATE");
        x.second(9);
        due.is(x.count(9), 0, "nothing goes on");
    }

    /**
     * HEDGE, FALLBACK, DEADLINE, JOIN: the second one is JOINED to the first. That one's DEADLINE takes the first
     * JOIN back, the second one ENDS with GONE, by the FALLBACK GOOD, and the HEDGE takes the first DEADLINE back.
     */
    private static void endedByWhatCameOfIt() {
        WaterWorks x = new WaterWorks();
        x.station(50, 100, 9);
        x.guard(5, 1, 0, 0, 0);
        x.guard(6, 0, 77, 0, 13);
        x.guard(3, 3, 0, 0, 0);
        x.guard(8, 0, 0, 0, 0);
        Due.tower(x, 0, 1, 2, 3);
        x.order(0, 0, 0, 0, 0);
        x.second(1);
        due.are(Due.row(x.count(6), x.call(7, 10), x.joined(3, 0)), Due.row(8, 3, 7), "the second is JOINED");
        due.is(x.second(2), 1, "the ORDER ENDS");
        due.are(Due.order(x, 0), Due.row(3, 77, -1, 0, 3), "GOOD by a FALLBACK");
        due.is(x.count(7), 1, "one FAILURE, none is LATE");
        due.are(Due.failure(x, 0), Due.row(13, 3, 3, -1, -1, -1), "GONE");
        due.are(Due.row(x.call(1, 7), x.call(2, 7), x.call(3, 7), x.call(4, 7)), Due.row(3, 3, 3, 3), "the first is TAKEN BACK");
        due.are(Due.row(x.call(5, 7), x.call(6, 7), x.call(7, 7)), Due.row(1, 2, 2), "the second ENDED");
    }
}
