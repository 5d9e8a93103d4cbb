/** The FALLBACK of part 3. */
public final class FallbackTest {
    private static final Due due = new Due("FallbackTest");

    public static void main(String[] args) {
        value();
        notNamed();
        spareIsGood();
        spareFails();
        outward();
        spareByKey();
        due.done();
    }

    private static WaterWorks works(int a, int b, int named) {
        WaterWorks x = new WaterWorks();
        x.station(50, 100, 1);
        x.station(7, 9, 2);
        x.guard(6, a, b, 0, named);
        return x;
    }

    private static void value() {
        WaterWorks x = works(0, 33, 5);
        Due.tower(x, 0);
        x.order(0, 0, 1, 60, 0);
        x.order(0, 0, 1, 10, 0);
        due.is(x.second(1), 2, "both END");
        due.are(Due.order(x, 0), Due.row(3, 33, -1, 0, 1), "the value");
        due.are(Due.call(x, 0), Due.row(0, 0, -1, 0, -1, 0, 1, 1, 33, -1, 0), "GOOD");
        due.are(Due.order(x, 1), Due.row(1, 10, -1, 0, 1), "GOOD without it");
        due.are(Due.row(x.count(7), x.level(0)), Due.row(1, 40), "the FAILURE is there");
    }

    private static void notNamed() {
        WaterWorks x = works(0, 33, 1);
        Due.tower(x, 0);
        x.order(0, 0, 1, 60, 0);
        x.second(1);
        due.are(Due.order(x, 0), Due.row(2, -1, 0, 0, 1), "ALIKE");
    }

    private static void spareIsGood() {
        WaterWorks x = works(1, 1, 0);
        x.guard(3, 9, 0, 0, 0);
        x.slow(1, 1, 1, 1, 3);
        Due.tower(x, 0, 1);
        x.order(0, 0, 1, 60, 0);
        x.fault(0, 1, 0, 9, 2);
        x.order(0, 0, 1, 4, 8);
        due.is(x.second(1), 0, "TRIES at the other STATION");
        due.are(Due.call(x, 7), Due.row(1, 1, 3, -1, 1, 1, -1, 0, -1, -1, 0), "of the next DEPTH");
        due.is(x.second(4), 0, "with that one's DELAY and SLOWNESS");
        due.is(x.second(1), 2, "they END");
        due.are(Due.order(x, 1), Due.row(3, 4, -1, 0, 6), "GOOD by a FALLBACK");
        due.are(Due.effect(x, 0), Due.row(1, 1, 8, -4, 6), "its EFFECT");
        due.are(Due.row(x.level(0), x.level(1)), Due.row(50, 3), "the LEVELS");
        due.is(x.call(7, 7), 1, "the TRY is GOOD");
    }

    private static void spareFails() {
        WaterWorks x = works(1, 1, 2);
        x.fault(0, 0, 0, 9, 2);
        x.fault(1, 0, 0, 9, 2);
        Due.tower(x, 0);
        x.order(0, 0, 0, 0, 0);
        due.is(x.second(3), 1, "a NAMED one, too, ENDS it");
        due.are(Due.order(x, 0), Due.row(2, -1, 1, 0, 3), "with the second");
        due.are(Due.failure(x, 1), Due.row(2, 3, -1, 1, 0, -1), "whose CAUSE is the first");
        due.are(Due.failure(x, 0), Due.row(2, 1, -1, 0, -1, -1), "the first");
        due.is(x.count(6), 3, "no third");
    }

    /** An answer by a FALLBACK stays so through every other sort. */
    private static void outward() {
        int[][] outer = {{0, 1, 1, 0, 0}, {1, 1, 1, 0, 0}, {2, 1, 1, 0, 0}, {3, 9, 0, 0, 0}, {4, 2, 1, 0, 0},
            {5, 9, 0, 0, 0}, {7, 9, 0, 0, 0}, {8, 0, 0, 0, 0}, {9, 0, 0, 0, 0}};
        for (int[] g : outer) {
            WaterWorks x = works(0, 33, 0);
            x.fault(0, 0, 0, 9, 2);
            x.guard(g[0], g[1], g[2], g[3], g[4]);
            Due.tower(x, 1, 0);
            x.order(0, 0, 0, 0, 0);
            x.second(1);
            due.are(Due.order(x, 0), Due.row(3, 33, -1, 0, 1), "through sort " + g[0]);
        }
    }

    /** A KEY that has an EFFECT at the first STATION has none at the other one. */
    private static void spareByKey() {
        WaterWorks x = works(1, 1, 0);
        x.fault(0, 1, 2, 9, 2);
        Due.tower(x, 0);
        x.order(0, 0, 1, 5, 4);
        x.second(1);
        x.order(0, 0, 1, 6, 4);
        x.second(3);
        x.order(0, 0, 2, 9, 4);
        x.second(3);
        due.are(Due.row(x.outcome(1), x.of(1, 0), x.level(1)), Due.row(3, 6, 1), "moved at the other one");
        due.are(Due.row(x.outcome(2), x.count(7)), Due.row(1, 1), "GIVE has no FAULT");
        due.are(Due.row(x.of(2, 0), x.level(0)), Due.row(5, 45), "what the KEY did at the first");
    }
}
