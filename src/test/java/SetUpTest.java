/** Promises 1 to 7, 27: a new object, stations, faults, slowness, guards, the row, towers; what each refuses. */
public final class SetUpTest {
    private static final Due due = new Due("SetUpTest");
    private static final int BIG = 1000000, MAX = Integer.MAX_VALUE, MIN = Integer.MIN_VALUE;

    public static void main(String[] args) {
        newObject();
        stations();
        spans();
        guardBounds();
        guardRefusals();
        rowAndTowers();
        due.done();
    }

    private static void newObject() {
        WaterWorks x = new WaterWorks();
        due.is(x.now(), 0, "now at first");
        due.are(Due.counts(x), new int[15], "counts at first");
        due.is(x.count(-1), WaterWorks.NONE, "count(-1)");
        due.is(x.count(15), WaterWorks.NONE, "count(15)");
        due.is(x.count(MIN), WaterWorks.NONE, "count(MIN)");
        due.is(x.count(MAX), WaterWorks.NONE, "count(MAX)");
        due.is(x.level(0), WaterWorks.NONE, "level(0) of none");
    }

    private static void stations() {
        WaterWorks x = new WaterWorks();
        int[][] refused = {{0, -1, 1}, {0, BIG + 1, 1}, {-1, 5, 1}, {6, 5, 1}, {0, 5, 0}, {0, 5, 101}, {0, MIN, 1}, {MAX, MAX, 1}};
        for (int[] r : refused) {
            due.is(x.station(r[0], r[1], r[2]), WaterWorks.RANGE, "station" + java.util.Arrays.toString(r));
        }
        due.is(x.count(0), 0, "stations after refusals");
        due.is(x.station(0, 0, 1), 0, "the least station");
        due.is(x.station(BIG, BIG, 100), 1, "the greatest station");
        due.is(x.station(3, 5, 7), 2, "a station");
        due.are(Due.row(x.level(-1), x.level(0), x.level(1), x.level(2), x.level(3)), Due.row(-1, 0, BIG, 3, -1), "levels");
        for (int i = 3; i < 8; i++) {
            due.is(x.station(0, 1, 1), i, "station " + i);
        }
        due.is(x.station(0, 1, 1), WaterWorks.FULL, "a ninth station");
        due.is(x.station(2, 1, 1), WaterWorks.RANGE, "RANGE ahead of FULL");
        due.is(x.count(0), 8, "stations");
    }

    private static void spans() {
        WaterWorks x = new WaterWorks();
        due.is(x.fault(0, 9, -1, -2, 0), WaterWorks.NONE, "fault: NONE ahead of RANGE");
        due.is(x.slow(0, 9, -1, -2, 0), WaterWorks.NONE, "slow: NONE ahead of RANGE");
        x.station(1, 2, 3);
        int[][] refused = {{0, -1, 0, 0, 1}, {0, 3, 0, 0, 1}, {0, 0, -1, 0, 1}, {0, 0, 2, 1, 1}, {0, 0, 0, 0, 0}, {0, 0, MIN, MAX, 1}};
        for (int[] r : refused) {
            String told = java.util.Arrays.toString(r);
            due.is(x.fault(r[0], r[1], r[2], r[3], r[4]), WaterWorks.RANGE, "fault" + told);
            due.is(x.slow(r[0], r[1], r[2], r[3], r[4]), WaterWorks.RANGE, "slow" + told);
        }
        due.is(x.fault(0, 0, 0, 0, 8), WaterWorks.RANGE, "fault: kind 8");
        due.is(x.slow(0, 0, 0, 0, 1001), WaterWorks.RANGE, "slow: 1001 seconds");
        due.is(x.fault(1, 0, 0, 0, 1), WaterWorks.NONE, "fault: station 1");
        due.is(x.slow(-1, 0, 0, 0, 1), WaterWorks.NONE, "slow: station -1");
        due.is(x.count(1) + x.count(2), 0, "spans after refusals");
        for (int i = 1; i <= 30; i++) {
            due.is(x.fault(0, i % 3, i, i == 5 ? MAX : i, i % 7 + 1), i, "fault " + i);
        }
        due.is(x.fault(0, 0, 0, 0, 1), WaterWorks.FULL, "fault 31");
        due.is(x.fault(0, 0, 0, 0, 0), WaterWorks.RANGE, "fault: RANGE ahead of FULL");
        due.is(x.count(2), 0, "faults are no slowness");
        for (int i = 1; i <= 30; i++) {
            due.is(x.slow(0, i % 3, i, i, i == 1 ? 1000 : i), i, "slow " + i);
        }
        due.is(x.slow(0, 0, 0, 0, 1), WaterWorks.FULL, "slow 31");
        due.is(x.slow(0, 3, 0, 0, 1), WaterWorks.RANGE, "slow: RANGE ahead of FULL");
        due.are(Due.row(x.count(1), x.count(2)), Due.row(30, 30), "spans");
    }

    /** For each sort the lowest and highest a, b, c, named. */
    private static void guardBounds() {
        int[][] low = {{1, 1, 0, 0}, {1, 0, 0, 0}, {1, 1, 0, 0}, {1, 0, 0, 0}, {2, 1, 0, 0},
            {1, 0, 0, 0}, {0, 0, 0, 0}, {1, 0, 0, 0}, {0, 0, 0, 0}, {0, 0, 0, 0}};
        int[][] high = {{20, 1000, 0, 15}, {10, 10, 0, 0}, {100, 100, 0, 0}, {1000, 0, 0, 0}, {6, 50, 1, 15},
            {100, 0, 0, 0}, {0, BIG, 0, 15}, {1000, 0, 0, 0}, {0, 0, 0, 0}, {0, 15, 0, 15}};
        for (int sort = 0; sort < 10; sort++) {
            due.is(probe(sort, low[sort]), 0, "the least guard of sort " + sort);
            due.is(probe(sort, high[sort]), 0, "the greatest guard of sort " + sort);
            for (int at = 0; at < 4; at++) {
                due.is(probe(sort, moved(low[sort], at, -1)), WaterWorks.RANGE, "sort " + sort + ", number " + at + " too low");
                // a of a FALLBACK one above a value is a STATION, which has a test of its own
                int up = sort == 6 && at == 0 ? 2 : 1;
                due.is(probe(sort, moved(high[sort], at, up)), WaterWorks.RANGE, "sort " + sort + ", number " + at + " too high");
            }
        }
        due.is(probe(-1, new int[4]), WaterWorks.RANGE, "sort -1");
        due.is(probe(10, new int[4]), WaterWorks.RANGE, "sort 10");
        due.is(probe(MIN, new int[4]), WaterWorks.RANGE, "sort MIN");
        due.is(probe(MAX, new int[4]), WaterWorks.RANGE, "sort MAX");
    }

    private static int probe(int sort, int[] n) {
        WaterWorks x = new WaterWorks();
        int answer = x.guard(sort, n[0], n[1], n[2], n[3]);
        due.is(x.count(3), answer == 0 ? 1 : 0, "guards after sort " + sort);
        return answer;
    }

    private static int[] moved(int[] numbers, int at, int by) {
        int[] other = numbers.clone();
        other[at] += by;
        return other;
    }

    private static void guardRefusals() {
        WaterWorks x = new WaterWorks();
        due.is(x.guard(6, 1, 0, 0, 0), WaterWorks.NONE, "a FALLBACK without its STATION");
        x.station(0, 0, 1);
        due.is(x.guard(6, 1, 1, 0, 0), WaterWorks.NONE, "a FALLBACK with a STATION too high");
        due.is(x.guard(6, 1, -1, 0, 0), WaterWorks.NONE, "a FALLBACK with STATION -1");
        due.is(x.guard(6, 1, 1, 7, 99), WaterWorks.NONE, "NONE ahead of RANGE");
        due.is(x.guard(6, 1, 0, 1, 0), WaterWorks.RANGE, "a FALLBACK with a c");
        due.is(x.guard(6, 1, 0, 0, 16), WaterWorks.RANGE, "a FALLBACK that names 16");
        due.is(x.guard(6, 1, 0, 0, 15), 0, "a FALLBACK with its STATION");
        for (int i = 1; i < 24; i++) {
            due.is(x.guard(8, 0, 0, 0, 0), i, "guard " + i);
        }
        due.is(x.guard(8, 0, 0, 0, 0), WaterWorks.FULL, "guard 25");
        due.is(x.guard(8, 1, 0, 0, 0), WaterWorks.RANGE, "RANGE ahead of FULL");
        due.is(x.guard(6, 1, 9, 0, 0), WaterWorks.NONE, "NONE ahead of FULL");
        due.is(x.count(3), 24, "guards");
    }

    private static void rowAndTowers() {
        WaterWorks x = new WaterWorks();
        due.is(x.on(0), WaterWorks.NONE, "on(0) of none");
        x.guard(0, 1, 1, 0, 0);
        x.guard(0, 2, 2, 0, 0);
        x.guard(1, 1, 1, 0, 0);
        x.guard(2, 1, 1, 0, 0);
        x.guard(3, 1, 0, 0, 0);
        x.guard(4, 2, 1, 0, 0);
        x.guard(5, 1, 0, 0, 0);
        due.is(x.on(-1), WaterWorks.NONE, "on(-1)");
        due.is(x.on(7), WaterWorks.NONE, "on(7)");
        due.is(x.on(1), 1, "the first");
        due.is(x.on(1), WaterWorks.RANGE, "the same again");
        due.is(x.on(0), WaterWorks.RANGE, "another one of its sort");
        due.is(x.count(12), 1, "the row after refusals");
        for (int i = 2; i < 6; i++) {
            due.is(x.on(i), i, "on(" + i + ")");
        }
        due.is(x.on(6), WaterWorks.FULL, "a sixth");
        due.is(x.on(5), WaterWorks.RANGE, "RANGE ahead of FULL");
        due.is(x.count(12), 5, "the row");
        due.is(x.tower(), 0, "a tower");
        due.is(x.count(12), 0, "the row after a tower");
        due.is(x.on(0), 1, "a new row");
        due.is(x.tower(), 1, "a GUARD of one sort in another tower");
        for (int i = 2; i < 10; i++) {
            due.is(x.tower(), i, "an empty tower " + i);
        }
        due.is(x.on(6), 1, "on for an eleventh");
        due.is(x.tower(), WaterWorks.FULL, "an eleventh tower");
        due.are(Due.row(x.count(4), x.count(12)), Due.row(10, 1), "towers and row after FULL");
        x.station(9, 9, 1);
        x.order(1, 0, 0, 0, 0);
        due.is(x.call(0, 3), 0, "tower 1 has GUARD 0");
        due.is(x.call(1, 3), WaterWorks.NONE, "and a TRY behind it");
        x.order(0, 0, 0, 0, 0);
        due.are(Due.row(x.call(2, 3), x.call(3, 3), x.call(4, 3), x.call(5, 3), x.call(6, 3), x.call(7, 3)),
            Due.row(1, 2, 3, 4, 5, -1), "the outermost first");
    }
}
