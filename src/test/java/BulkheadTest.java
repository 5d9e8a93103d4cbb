/** Promises 22, 23 and the BULKHEAD of parts 3 and 4. */
public final class BulkheadTest {
    private static final Due due = new Due("BulkheadTest");

    public static void main(String[] args) {
        waitsAndRefuses();
        noneWaitsAtAll();
        takenBack();
        behindThoseThatWait();
        admitsAsLongAsThereIsRoom();
        noSuchNumber();
        due.done();
    }

    private static int[] state(WaterWorks x) {
        return Due.row(x.bulkhead(0, 0), x.bulkhead(0, 1), x.bulkhead(0, 2));
    }

    private static WaterWorks works(int a, int b, int delay) {
        WaterWorks x = new WaterWorks();
        x.station(50, 100, delay);
        x.guard(1, a, b, 0, 0);
        Due.tower(x, 0);
        return x;
    }

    private static void orders(WaterWorks x, int howMany) {
        for (int i = 0; i < howMany; i++) {
            x.order(0, 0, 1, 1, 0);
        }
    }

    private static void waitsAndRefuses() {
        WaterWorks x = works(2, 2, 3);
        due.are(state(x), Due.row(0, 0, 0), "at first");
        orders(x, 5);
        due.are(state(x), Due.row(2, 2, 1), "two, two, one");
        due.are(Due.call(x, 4), Due.row(2, 0, -1, 0, -1, 0, -1, 0, -1, -1, 1), "it WAITS");
        due.is(x.call(0, 10), 0, "one AT WORK does not wait");
        due.are(Due.row(x.waiting(0, 0), x.waiting(0, 1), x.waiting(0, 2), x.waiting(0, -1)), Due.row(4, 5, -1, -1), "the longest first");
        due.are(Due.order(x, 4), Due.row(2, -1, 0, 0, 0), "refused at once");
        due.are(Due.failure(x, 0), Due.row(10, 0, 0, -1, -1, -1), "CROWDED");
        due.is(x.second(3), 2, "the first two END");
        due.are(state(x), Due.row(2, 0, 1), "the others went in in that second");
        due.are(Due.row(x.call(4, 10), x.call(7, 2), x.call(7, 5), x.call(8, 2)), Due.row(0, 4, 3, 5), "in their order");
        due.is(x.second(3), 2, "these END");
        due.are(state(x), Due.row(0, 0, 1), "at last");
        due.is(x.level(0), 46, "four moved water");
    }

    private static void noneWaitsAtAll() {
        WaterWorks x = works(1, 0, 1);
        orders(x, 3);
        due.are(state(x), Due.row(1, 0, 2), "b 0");
        due.is(x.second(1), 1, "one ENDS");
        orders(x, 1);
        due.are(state(x), Due.row(1, 0, 2), "room again");
    }

    private static void takenBack() {
        WaterWorks x = works(1, 3, 5);
        orders(x, 4);
        due.is(x.cancel(2), 1, "one that WAITS");
        due.are(state(x), Due.row(1, 2, 0), "waits no more");
        due.are(Due.row(x.waiting(0, 0), x.waiting(0, 1), x.waiting(0, 2)), Due.row(2, 4, -1), "those that wait");
        due.is(x.cancel(0), 2, "the one AT WORK");
        due.are(state(x), Due.row(0, 2, 0), "AT WORK no more; the others wait for the second");
        x.second(1);
        due.are(state(x), Due.row(1, 1, 0), "one goes in");
        due.is(x.waiting(0, 0), 4, "the other waits");
    }

    private static void behindThoseThatWait() {
        WaterWorks x = works(1, 3, 5);
        orders(x, 2);
        x.cancel(0);
        orders(x, 1);
        due.are(state(x), Due.row(0, 2, 0), "there is room, but one waits");
        due.are(Due.row(x.waiting(0, 0), x.waiting(0, 1)), Due.row(2, 3), "it waits behind that");
    }

    /** The FUSE within refuses what goes in at once, so that there is room for the next. */
    private static void admitsAsLongAsThereIsRoom() {
        WaterWorks x = new WaterWorks();
        x.station(50, 100, 1);
        x.guard(1, 1, 5, 0, 0);
        x.guard(0, 1, 9, 0, 0);
        x.fault(0, 1, 0, 9, 7);
        Due.tower(x, 0, 1);
        orders(x, 4);
        due.are(state(x), Due.row(1, 3, 0), "one AT WORK");
        due.is(x.second(1), 4, "one after the other");
        due.are(state(x), Due.row(0, 0, 0), "none is left");
        due.are(Due.row(x.call(3, 6), x.call(4, 6), x.call(5, 6)), Due.row(1, 1, 1), "all in that second");
        due.are(Due.row(x.call(6, 2), x.call(7, 2), x.call(8, 2)), Due.row(3, 4, 5), "the longest first");
    }

    private static void noSuchNumber() {
        WaterWorks x = works(1, 3, 5);
        x.guard(0, 1, 1, 0, 0);
        orders(x, 2);
        int[] guards = {-1, 1, 2, Integer.MIN_VALUE, Integer.MAX_VALUE};
        for (int guard : guards) {
            due.is(x.bulkhead(guard, 0), WaterWorks.NONE, "bulkhead(" + guard + ", 0)");
            due.is(x.waiting(guard, 0), WaterWorks.NONE, "waiting(" + guard + ", 0)");
        }
        due.is(x.bulkhead(0, -1), WaterWorks.NONE, "bulkhead(0, -1)");
        due.is(x.bulkhead(0, 3), WaterWorks.NONE, "bulkhead(0, 3)");
        due.is(x.waiting(0, 0), 2, "waiting(0, 0)");
        due.is(x.waiting(0, 1), WaterWorks.NONE, "waiting(0, 1)");
    }
}
