/** Promise 25 and the MEMORY of part 3. */
public final class MemoryTest {
    private static final Due due = new Due("MemoryTest");

    public static void main(String[] args) {
        keeps();
        otherActs();
        failures();
        byFallback();
        noSuchNumber();
        due.done();
    }

    private static WaterWorks works(int a) {
        WaterWorks x = new WaterWorks();
        x.station(50, 100, 2);
        x.station(7, 9, 2);
        x.guard(7, a, 0, 0, 0);
        return x;
    }

    private static int[] kept(WaterWorks x, int station) {
        return Due.row(x.kept(0, station, 0), x.kept(0, station, 1));
    }

    private static void keeps() {
        WaterWorks x = works(3);
        Due.tower(x, 0);
        x.tower();
        x.order(0, 0, 0, 0, 0);
        due.are(kept(x, 0), Due.row(-1, -1), "nothing at first");
        x.order(1, 0, 1, 20, 0);
        x.second(2);
        due.are(kept(x, 0), Due.row(50, 2), "KEPT at TIME");
        due.are(kept(x, 1), Due.row(-1, -1), "for one STATION");
        x.order(0, 0, 0, 0, 0);
        due.are(Due.order(x, 2), Due.row(1, 50, -1, 2, 2), "GOOD at once");
        x.order(0, 1, 0, 0, 0);
        due.is(x.outcome(3), 0, "another STATION");
        x.second(3);
        x.order(0, 0, 0, 0, 0);
        due.are(Due.order(x, 4), Due.row(1, 50, -1, 5, 5), "a seconds later");
        due.are(kept(x, 0), Due.row(50, 2), "it is not KEPT anew");
        x.second(1);
        x.order(0, 0, 0, 0, 0);
        due.is(x.outcome(5), 0, "too old");
        due.are(kept(x, 0), Due.row(50, 2), "but there still");
        x.second(2);
        due.are(kept(x, 0), Due.row(30, 8), "in place of that");
        due.are(kept(x, 1), Due.row(7, 4), "the other STATION's");
    }

    private static void otherActs() {
        WaterWorks x = works(99);
        Due.tower(x, 0);
        x.order(0, 0, 2, 3, 0);
        x.order(0, 0, 1, 4, 0);
        due.is(x.second(2), 2, "both END");
        due.are(kept(x, 0), Due.row(-1, -1), "no READ, not KEPT");
        x.order(0, 0, 0, 0, 0);
        x.second(2);
        x.order(0, 0, 1, 1, 0);
        due.is(x.outcome(3), 0, "no READ, not remembered");
        due.are(kept(x, 0), Due.row(49, 4), "the READ");
    }

    private static void failures() {
        WaterWorks x = works(1);
        x.fault(0, 0, 4, 9, 7);
        Due.tower(x, 0);
        x.order(0, 0, 0, 0, 0);
        x.second(2);
        x.second(2);
        x.order(0, 0, 0, 0, 0);
        x.second(2);
        due.are(Due.order(x, 1), Due.row(2, -1, 0, 4, 6), "a FAILURE");
        due.are(kept(x, 0), Due.row(50, 2), "is not KEPT");
    }

    private static void byFallback() {
        WaterWorks x = works(9);
        x.guard(6, 0, 88, 0, 0);
        x.fault(0, 0, 0, 9, 7);
        Due.tower(x, 0, 1);
        x.order(0, 0, 0, 0, 0);
        x.second(2);
        x.order(0, 0, 0, 0, 0);
        due.are(Due.order(x, 0), Due.row(3, 88, -1, 0, 2), "by a FALLBACK");
        due.are(Due.order(x, 1), Due.row(3, 88, -1, 2, 2), "and so when it was KEPT");
        due.are(kept(x, 0), Due.row(88, 2), "KEPT");
    }

    private static void noSuchNumber() {
        WaterWorks x = works(9);
        x.guard(8, 0, 0, 0, 0);
        Due.tower(x, 0);
        x.order(0, 0, 0, 0, 0);
        x.second(2);
        int[] wrong = {-1, 1, 2, 8, Integer.MIN_VALUE, Integer.MAX_VALUE};
        for (int i : wrong) {
            due.is(x.kept(i, 0, 0), WaterWorks.NONE, "kept(" + i + ", 0, 0)");
            due.is(x.kept(0, i, 0), WaterWorks.NONE, "kept(0, " + i + ", 0)");
            due.is(x.kept(0, 0, i < 0 ? i : i + 1 < 0 ? i : i + 1), WaterWorks.NONE, "kept: what");
        }
        due.is(x.kept(0, 0, 0), 50, "kept(0, 0, 0)");
    }
}
