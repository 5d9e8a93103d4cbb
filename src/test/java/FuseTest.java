/** Promise 21 and the FUSE of part 3. */
public final class FuseTest {
    private static final Due due = new Due("FuseTest");
    private static final int READ = 0, TAKE = 1;

    public static void main(String[] args) {
        opensAndCloses();
        countStartsAgain();
        trialFails();
        trialFailsOtherwise();
        trialTakenBack();
        othersDoNothing();
        oneForAllTowers();
        noSuchNumber();
        due.done();
    }

    private static int[] fuse(WaterWorks x) {
        return Due.row(x.fuse(0, 0), x.fuse(0, 1), x.fuse(0, 2));
    }

    /** STATION 0 of DELAY 1, a FUSE that NAMES BROKEN, tower 0. */
    private static WaterWorks works(int a, int b) {
        WaterWorks x = new WaterWorks();
        x.station(50, 100, 1);
        x.guard(0, a, b, 0, 7);
        Due.tower(x, 0);
        return x;
    }

    private static int readOnce(WaterWorks x) {
        int order = x.order(0, 0, READ, 0, 0);
        x.second(1);
        return x.outcome(order);
    }

    private static void opensAndCloses() {
        WaterWorks x = works(2, 5);
        x.fault(0, READ, 1, 3, 7);
        due.are(fuse(x), Due.row(0, 0, 0), "at first");
        readOnce(x);
        due.are(fuse(x), Due.row(0, 1, 0), "one NAMED");
        readOnce(x);
        due.are(fuse(x), Due.row(1, 2, 7), "the a-th NAMED");
        x.order(0, 0, READ, 0, 0);
        due.are(Due.order(x, 2), Due.row(2, -1, 2, 2, 2), "refused at once");
        due.are(Due.failure(x, 2), Due.row(9, 2, 0, -1, -1, -1), "OPEN");
        due.is(x.count(6), 5, "a CALL that is refused BEGINS none");
        x.second(4);
        x.order(0, 0, READ, 0, 0);
        due.is(x.outcome(3), 2, "before its second UNTIL");
        due.are(fuse(x), Due.row(1, 2, 7), "refusals don't count");
        x.second(1);
        x.order(0, 0, READ, 0, 0);
        due.are(fuse(x), Due.row(2, 2, 7), "from UNTIL on: TRYING");
        x.order(0, 0, READ, 0, 0);
        due.are(Due.failure(x, x.of(5, 1)), Due.row(9, 7, 0, -1, -1, -1), "TRYING refuses likewise");
        due.is(x.second(1), 1, "the trial ENDS");
        due.are(Due.order(x, 4), Due.row(1, 50, -1, 7, 8), "the trial is GOOD");
        due.are(fuse(x), Due.row(0, 0, 7), "CLOSED, COUNT 0");
    }

    private static void countStartsAgain() {
        WaterWorks x = works(3, 5);
        x.fault(0, READ, 1, 2, 7);
        x.fault(0, READ, 4, 4, 7);
        x.fault(0, READ, 5, 5, 2);
        x.fault(0, READ, 6, 8, 7);
        int[] counts = new int[8];
        for (int i = 0; i < 8; i++) {
            readOnce(x);
            counts[i] = x.fuse(0, 1);
        }
        due.are(counts, Due.row(1, 2, 0, 1, 0, 1, 2, 3), "GOOD and not NAMED set COUNT to 0");
        due.are(fuse(x), Due.row(1, 3, 13), "then it opens");
    }

    private static void trialFails() {
        WaterWorks x = works(1, 2);
        x.fault(0, READ, 1, 4, 7);
        readOnce(x);
        due.are(fuse(x), Due.row(1, 1, 3), "OPEN by the first");
        x.second(2);
        due.is(readOnce(x), 2, "the trial");
        due.are(fuse(x), Due.row(1, 1, 6), "OPEN again, from the trial's end");
    }

    private static void trialFailsOtherwise() {
        WaterWorks x = works(1, 2);
        x.fault(0, READ, 1, 1, 7);
        x.fault(0, READ, 4, 4, 5);
        readOnce(x);
        x.second(2);
        due.is(readOnce(x), 2, "the trial is not NAMED");
        due.are(fuse(x), Due.row(0, 0, 3), "CLOSED");
    }

    private static void trialTakenBack() {
        WaterWorks x = works(1, 5);
        x.fault(0, READ, 1, 1, 7);
        readOnce(x);
        x.second(8);
        x.order(0, 0, READ, 0, 0);
        due.are(fuse(x), Due.row(2, 1, 6), "a trial");
        due.is(x.cancel(1), 2, "its CALLS");
        due.are(fuse(x), Due.row(1, 1, 9), "OPEN, UNTIL TIME");
        x.order(0, 0, READ, 0, 0);
        due.are(fuse(x), Due.row(2, 1, 9), "another trial at once");
        x.order(0, 0, READ, 0, 0);
        due.is(x.outcome(3), 2, "and no other");
        x.second(1);
        due.are(fuse(x), Due.row(0, 0, 9), "CLOSED by it");
        x.order(0, 0, READ, 0, 0);
        x.cancel(4);
        due.are(fuse(x), Due.row(0, 0, 9), "one that is no trial is TAKEN BACK");
    }

    /** CALLS that went in while it was CLOSED END while it is OPEN or TRYING. */
    private static void othersDoNothing() {
        WaterWorks x = works(1, 2);
        x.fault(0, READ, 1, 9, 7);
        x.slow(0, TAKE, 0, 0, 2);
        x.slow(0, TAKE, 3, 3, 9);
        x.order(0, 0, READ, 0, 0);
        x.order(0, 0, READ, 0, 0);
        x.order(0, 0, TAKE, 1, 0);
        x.slow(0, TAKE, 0, 0, 1);
        x.order(0, 0, TAKE, 1, 0);
        x.second(1);
        due.are(fuse(x), Due.row(1, 1, 3), "the second FAILURE finds it OPEN");
        x.second(2);
        due.are(fuse(x), Due.row(1, 1, 3), "a GOOD one finds it OPEN");
        x.order(0, 0, TAKE, 1, 0);
        x.second(1);
        due.is(x.outcome(3), 1, "another GOOD one");
        due.are(fuse(x), Due.row(2, 1, 3), "finds it TRYING");
        x.second(9);
        due.are(fuse(x), Due.row(0, 0, 3), "till the trial ENDS");
    }

    private static void oneForAllTowers() {
        WaterWorks x = works(2, 5);
        x.guard(3, 9, 0, 0, 0);
        Due.tower(x, 1, 0);
        x.fault(0, READ, 0, 9, 7);
        x.order(0, 0, READ, 0, 0);
        x.order(1, 0, READ, 0, 0);
        x.second(1);
        due.are(fuse(x), Due.row(1, 2, 6), "CALLS of two towers");
    }

    private static void noSuchNumber() {
        WaterWorks x = works(2, 5);
        x.guard(2, 1, 1, 0, 0);
        int[] guards = {-1, 1, 2, Integer.MIN_VALUE, Integer.MAX_VALUE};
        for (int guard : guards) {
            due.is(x.fuse(guard, 0), WaterWorks.NONE, "fuse(" + guard + ", 0)");
        }
        due.is(x.fuse(0, -1), WaterWorks.NONE, "fuse(0, -1)");
        due.is(x.fuse(0, 3), WaterWorks.NONE, "fuse(0, 3)");
    }
}
