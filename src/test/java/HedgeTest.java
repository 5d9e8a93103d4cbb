/** The HEDGE of parts 3 and 4. */
public final class HedgeTest {
    private static final Due due = new Due("HedgeTest");

    public static void main(String[] args) {
        secondIsGood();
        firstIsGood();
        firstEndsBefore();
        bothFail();
        secondIsRefused();
        sameFailure();
        takesBackThoseJoined();
        due.done();
    }

    /** STATION 0 of DELAY 1, slower for what begins in second 0; HEDGE 0. */
    private static WaterWorks works(int a, int slower) {
        WaterWorks x = new WaterWorks();
        x.station(50, 100, 1);
        x.guard(5, a, 0, 0, 0);
        if (slower > 0) {
            x.slow(0, 1, 0, 0, slower);
        }
        return x;
    }

    private static void secondIsGood() {
        WaterWorks x = works(2, 9);
        Due.tower(x, 0);
        x.order(0, 0, 1, 5, 0);
        x.second(1);
        due.is(x.count(6), 2, "not due yet");
        x.second(1);
        due.are(Due.call(x, 2), Due.row(0, 1, 0, -1, 0, 2, -1, 0, -1, -1, 0), "the second one");
        due.is(x.second(1), 1, "it is GOOD");
        due.are(Due.order(x, 0), Due.row(1, 5, -1, 0, 3), "ALIKE");
        due.are(Due.call(x, 1), Due.row(0, 1, 0, -1, 0, 0, 3, 3, -1, -1, 0), "the first is TAKEN BACK");
        x.second(9);
        due.are(Due.row(x.count(6), x.count(8), x.level(0)), Due.row(3, 1, 45), "one moved water, no third");
    }

    private static void firstIsGood() {
        WaterWorks x = works(1, 1);
        Due.tower(x, 0);
        x.order(0, 0, 1, 5, 0);
        due.is(x.second(2), 1, "both END in that second, by number");
        due.are(Due.row(x.call(1, 7), x.call(2, 7), x.count(8)), Due.row(1, 3, 1), "the second is TAKEN BACK");
    }

    private static void firstEndsBefore() {
        WaterWorks x = works(1, 0);
        Due.tower(x, 0);
        x.fault(0, 1, 2, 2, 7);
        x.order(0, 0, 1, 5, 0);
        due.is(x.second(1), 1, "TRIES are ahead of HEDGES");
        x.order(0, 0, 1, 5, 0);
        due.is(x.second(1), 1, "with a FAILURE");
        due.are(Due.order(x, 1), Due.row(2, -1, 0, 1, 2), "ALIKE");
        due.is(x.count(6), 4, "no second ones");
    }

    private static void bothFail() {
        WaterWorks x = works(1, 3);
        Due.tower(x, 0);
        x.fault(0, 1, 2, 2, 7);
        x.fault(0, 1, 4, 4, 3);
        x.order(0, 0, 1, 5, 0);
        due.is(x.second(2), 0, "the second failed, the first is UNDER WAY");
        due.is(x.second(2), 1, "the first fails");
        due.are(Due.order(x, 0), Due.row(2, -1, 0, 0, 4), "it ENDS with the other one's");
        due.are(Due.failure(x, 0), Due.row(7, 2, -1, 0, -1, -1), "the second one's");
        due.are(Due.failure(x, 1), Due.row(3, 4, -1, 0, -1, 0), "the first one's is SUPPRESSED under it");
        due.is(x.call(1, 9), 1, "the first has its own");
    }

    private static void secondIsRefused() {
        WaterWorks x = works(1, 3);
        x.guard(1, 1, 0, 0, 0);
        Due.tower(x, 0, 1);
        x.order(0, 0, 1, 5, 0);
        due.is(x.second(1), 0, "CROWDED, nothing");
        due.are(Due.row(x.call(3, 7), x.failure(0, 0)), Due.row(2, 10), "the second");
        due.is(x.second(3), 1, "the first is GOOD");
        due.is(x.outcome(0), 1, "GOOD");
    }

    private static void sameFailure() {
        WaterWorks x = works(1, 2);
        x.guard(8, 0, 0, 0, 0);
        x.fault(0, 1, 3, 3, 7);
        Due.tower(x, 0, 1);
        x.order(0, 0, 1, 5, 0);
        due.is(x.second(3), 1, "both END with one FAILURE");
        due.are(Due.row(x.of(0, 1), x.count(7), x.failure(0, 5)), Due.row(0, 1, -1), "it is not under itself");
    }

    /** MEMORY within: the second one is GOOD at once, and takes back the first, which leads another ORDER's. */
    private static void takesBackThoseJoined() {
        WaterWorks x = new WaterWorks();
        x.station(50, 100, 1);
        x.guard(5, 2, 0, 0, 0);
        x.guard(7, 9, 0, 0, 0);
        x.guard(8, 0, 0, 0, 0);
        x.slow(0, 0, 0, 0, 9);
        Due.tower(x, 0, 1, 2);
        Due.tower(x, 1);
        Due.tower(x, 2);
        x.order(0, 0, 0, 0, 0);
        x.order(2, 0, 0, 0, 0);
        x.second(1);
        x.order(1, 0, 0, 0, 0);
        due.is(x.second(1), 3, "what was KEPT in that second");
        due.are(Due.order(x, 0), Due.row(1, 50, -1, 0, 2), "GOOD at once");
        due.are(Due.order(x, 1), Due.row(2, -1, 0, 0, 2), "the other one");
        due.are(Due.failure(x, 0), Due.row(13, 2, 2, -1, -1, -1), "GONE");
        due.are(Due.row(x.call(1, 7), x.call(2, 7), x.call(3, 7)), Due.row(3, 3, 3), "the first is TAKEN BACK");
    }
}
