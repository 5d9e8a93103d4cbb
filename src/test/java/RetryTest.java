/** The RETRY of parts 3 and 4, what it suppresses. */
public final class RetryTest {
    private static final Due due = new Due("RetryTest");

    public static void main(String[] args) {
        pausesAlike();
        pausesDouble();
        lastOneFails();
        notNamed();
        refusedAtOnce();
        suppressedOnce();
        due.done();
    }

    private static WaterWorks works(int a, int b, int c, int named) {
        WaterWorks x = new WaterWorks();
        x.station(50, 100, 1);
        x.guard(4, a, b, c, named);
        Due.tower(x, 0);
        return x;
    }

    private static void pausesAlike() {
        WaterWorks x = works(4, 3, 0, 7);
        x.fault(0, 1, 0, 8, 7);
        x.order(0, 0, 1, 5, 0);
        x.second(1);
        due.are(Due.call(x, 0), Due.row(0, 0, -1, 0, -1, 0, -1, 0, -1, -1, 2), "it PAUSES");
        x.second(2);
        due.is(x.count(6), 2, "the PAUSE lasts");
        x.second(1);
        due.are(Due.call(x, 2), Due.row(0, 1, 0, -1, 0, 4, -1, 0, -1, -1, 0), "the next one");
        due.is(x.call(0, 10), 0, "it PAUSES no more");
        x.second(4);
        due.is(x.call(3, 5), 8, "the second PAUSE is as long");
        due.is(x.second(1), 1, "the third is GOOD");
        due.are(Due.order(x, 0), Due.row(1, 5, -1, 0, 9), "GOOD");
        due.are(Due.row(x.failure(0, 5), x.failure(1, 5), x.count(7)), Due.row(-1, -1, 2), "GOOD suppresses none");
    }

    private static void pausesDouble() {
        WaterWorks x = works(6, 2, 1, 0);
        x.fault(0, 1, 0, 999, 3);
        x.order(0, 0, 1, 5, 0);
        due.is(x.second(100), 1, "it ENDS");
        int[] began = new int[6];
        for (int i = 0; i < 6; i++) {
            began[i] = x.call(i + 1, 5);
        }
        due.are(began, Due.row(0, 3, 8, 17, 34, 67), "PAUSES of 2, 4, 8, 16, 32");
        due.are(Due.order(x, 0), Due.row(2, -1, 5, 0, 68), "the sixth");
    }

    private static void lastOneFails() {
        WaterWorks x = works(3, 1, 0, 1);
        x.fault(0, 1, 1, 1, 2);
        x.fault(0, 1, 2, 9, 3);
        x.order(0, 0, 1, 5, 0);
        due.is(x.second(5), 1, "the third ENDS");
        due.are(Due.order(x, 0), Due.row(2, -1, 2, 0, 5), "as it did");
        due.are(Due.failure(x, 0), Due.row(2, 1, -1, 0, -1, 2), "the first is SUPPRESSED under it");
        due.are(Due.failure(x, 1), Due.row(3, 3, -1, 0, -1, 2), "the second, too");
        due.are(Due.failure(x, 2), Due.row(3, 5, -1, 0, -1, -1), "it is not");
        due.is(x.count(6), 4, "no fourth");
    }

    private static void notNamed() {
        WaterWorks x = works(5, 1, 0, 1);
        x.fault(0, 1, 1, 1, 1);
        x.fault(0, 1, 2, 9, 4);
        x.order(0, 0, 1, 5, 0);
        due.is(x.second(9), 1, "not NAMED");
        due.are(Due.order(x, 0), Due.row(2, -1, 1, 0, 3), "ALIKE");
        due.are(Due.row(x.failure(0, 5), x.failure(1, 5)), Due.row(1, -1), "the NAMED one is SUPPRESSED");
    }

    private static void refusedAtOnce() {
        WaterWorks x = new WaterWorks();
        x.station(50, 100, 1);
        x.guard(4, 3, 2, 0, 8);
        x.guard(2, 1, 1, 0, 0);
        Due.tower(x, 0, 1);
        x.order(0, 0, 1, 5, 0);
        x.order(0, 0, 1, 5, 0);
        due.are(Due.row(x.outcome(1), x.call(3, 10), x.call(4, 7)), Due.row(0, 2, 2), "it PAUSES at once");
        due.is(x.second(3), 2, "both are GOOD");
        due.are(Due.row(x.call(5, 2), x.call(5, 5), x.of(1, 3)), Due.row(3, 2, 3), "begun again");
    }

    /** Two RETRIES have the same FAILURE: the one that ENDS first has it under its own. */
    private static void suppressedOnce() {
        WaterWorks x = new WaterWorks();
        x.station(50, 100, 1);
        x.guard(4, 2, 2, 0, 0);
        x.guard(8, 0, 0, 0, 0);
        x.guard(4, 2, 1, 0, 0);
        x.fault(0, 0, 0, 9, 2);
        Due.tower(x, 0, 1);
        Due.tower(x, 2, 1);
        x.order(0, 0, 0, 0, 0);
        x.order(1, 0, 0, 0, 0);
        x.second(1);
        due.are(Due.row(x.count(7), x.call(1, 9), x.call(4, 9)), Due.row(1, 0, 0), "one FAILURE for both");
        due.is(x.second(2), 1, "the second ORDER ENDS");
        due.are(Due.row(x.of(1, 1), x.failure(0, 5)), Due.row(1, 1), "it is under that one's");
        due.is(x.second(1), 1, "the first ORDER ENDS");
        due.are(Due.row(x.of(0, 1), x.failure(0, 5), x.failure(2, 5)), Due.row(2, 1, -1), "and stays there");
    }
}
