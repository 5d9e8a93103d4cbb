/** Promise 19 and the TRANSLATOR of part 3. */
public final class TranslatorTest {
    private static final Due due = new Due("TranslatorTest");

    public static void main(String[] args) {
        for (int named = 0; named < 16; named++) {
            translate(named);
        }
        chain();
        due.done();
    }

    /** BROKEN is OF 0, 4, 7. */
    private static void translate(int named) {
        WaterWorks x = new WaterWorks();
        x.station(50, 100, 2);
        x.guard(8, 0, 0, 0, 0);
        x.guard(9, 0, 15, 0, named);
        x.fault(0, 0, 0, 3, 7);
        Due.tower(x, 1);
        x.order(0, 0, 0, 0, 0);
        x.second(2);
        if (named == 0 || named == 4 || named == 7) {
            due.are(Due.order(x, 0), Due.row(2, -1, 1, 0, 2), "NAMED by " + named);
            due.are(Due.failure(x, 1), Due.row(15, 2, 1, -1, 0, -1), "its FAILURE");
        } else {
            due.are(Due.order(x, 0), Due.row(2, -1, 0, 0, 2), "not NAMED by " + named);
            due.is(x.count(7), 1, "no other FAILURE");
        }
        due.are(Due.failure(x, 0), Due.row(7, 2, -1, 0, -1, -1), "that of the TRY");
        x.order(0, 0, 0, 0, 0);
        x.second(2);
        due.is(x.outcome(1), 1, "GOOD");
    }

    /** TRANSLATOR over FALLBACK over DEADLINE: the last FAILURE's CAUSE has a CAUSE. */
    private static void chain() {
        WaterWorks x = new WaterWorks();
        x.station(50, 100, 5);
        x.guard(9, 0, 1, 0, 7);
        x.guard(6, 1, 0, 0, 12);
        x.guard(3, 1, 0, 0, 0);
        x.fault(0, 0, 0, 9, 7);
        Due.tower(x, 0, 1, 2);
        x.order(0, 0, 0, 0, 0);
        x.second(6);
        due.are(Due.failure(x, 0), Due.row(12, 1, 2, -1, -1, -1), "LATE");
        due.are(Due.failure(x, 1), Due.row(7, 6, -1, 0, 0, -1), "BROKEN");
        due.are(Due.failure(x, 2), Due.row(1, 6, 0, -1, 1, -1), "LINE");
        due.is(x.of(0, 1), 2, "as which the ORDER ENDS");
    }
}
