/** Promise 24 and the LIMIT of parts 3 and 4. */
public final class LimitTest {
    private static final Due due = new Due("LimitTest");

    public static void main(String[] args) {
        WaterWorks x = new WaterWorks();
        x.station(50, 100, 1);
        x.guard(2, 5, 2, 0, 0);
        x.guard(0, 5, 2, 0, 0);
        Due.tower(x, 0);
        due.is(x.tokens(0), 5, "a TOKENS at first");
        for (int i = 0; i < 5; i++) {
            x.order(0, 0, 0, 0, 0);
            due.is(x.tokens(0), 4 - i, "one is taken");
        }
        x.order(0, 0, 0, 0, 0);
        due.is(x.tokens(0), 0, "none is left");
        due.are(Due.order(x, 5), Due.row(2, -1, 0, 0, 0), "refused at once");
        due.are(Due.failure(x, 0), Due.row(11, 0, 0, -1, -1, -1), "SHORT");
        due.is(x.second(1), 5, "ALIKE");
        due.are(Due.order(x, 4), Due.row(1, 50, -1, 0, 1), "the last one");
        due.is(x.tokens(0), 2, "b more");
        x.second(1);
        due.is(x.tokens(0), 4, "b more");
        x.second(1);
        due.is(x.tokens(0), 5, "a at most");
        x.second(1);
        due.is(x.tokens(0), 5, "a at most, again");
        x.order(0, 0, 0, 0, 0);
        x.cancel(6);
        due.is(x.tokens(0), 4, "a TOKEN is not given back");
        int[] guards = {-1, 1, 2, Integer.MIN_VALUE, Integer.MAX_VALUE};
        for (int guard : guards) {
            due.is(x.tokens(guard), WaterWorks.NONE, "tokens(" + guard + ")");
        }
        due.done();
    }
}
