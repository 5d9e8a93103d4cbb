/** Promise 17, outcome: 0 UNDER WAY, 1 GOOD, 2 a FAILURE, 3 GOOD by a FALLBACK, 4 cancelled. NONE. */
public final class Promise17Test extends Told {
    public static void main(String[] args) {
        promise("17, outcome");
        noSuchOrder();
        underWay();
        good();
        failures();
        byFallback();
        staysSoOutward();
        cancelled();
        done();
    }

    private static void works(int... guard) {
        make("station", 50, 100, 1);
        make("station", 50, 100, 1);
        make("guard", guard);
        tower(0);
    }

    private static void noSuchOrder() {
        sentence("NONE: none is there");
        due(NONE, "outcome", 0);
        sentence("NONE: one is there");
        works(JOIN, 0, 0, 0, 0);
        make("order", 0, 0, READ, 0, 0);
        int[] wrong = {-1, 1, MIN, MAX};
        for (int order : wrong) {
            due(NONE, "outcome", order);
        }
        due(0, "outcome", 0);
        sentence("NONE: all sixty are there");
        works(JOIN, 0, 0, 0, 0);
        makeAll(60, "order", 0, 0, READ, 0, 0);
        due(0, "outcome", 59);
        due(NONE, "outcome", 60);
    }

    private static void underWay() {
        sentence("0 till the second in which it ENDS");
        make("station", 50, 100, 3);
        make("tower");
        make("order", 0, 0, READ, 0, 0);
        due(0, "outcome", 0);
        make("second", 2);
        due(0, "outcome", 0);
        make("second", 1);
        due(1, "outcome", 0);
        sentence("0 while it WAITS");
        works(BULKHEAD, 1, 1, 0, 0);
        makeAll(2, "order", 0, 0, READ, 0, 0);
        due(0, "outcome", 1);
        sentence("0 while it PAUSES");
        works(RETRY, 2, 5, 0, ANY);
        make("order", 0, 0, TAKE, 51, 0);
        make("second", 5);
        due(0, "outcome", 0);
        make("second", 1);
        due(0, "outcome", 0);
        make("second", 1);
        due(2, "outcome", 0);
        sentence("0 while it is JOINED");
        works(JOIN, 0, 0, 0, 0);
        makeAll(2, "order", 0, 0, READ, 0, 0);
        due(0, "outcome", 1);
        sentence("0 while the other STATION is tried");
        works(FALLBACK, 1, 1, 0, ANY);
        make("order", 0, 0, TAKE, 51, 0);
        make("second", 1);
        due(0, "outcome", 0);
    }

    private static void good() {
        sentence("1 GOOD, also with an answer of 0");
        make("station", 0, 100, 1);
        make("tower");
        make("order", 0, 0, READ, 0, 0);
        make("order", 0, 0, TAKE, 0, 0);
        make("order", 0, 0, GIVE, 1, 0);
        make("second", 1);
        due(1, "outcome", 0);
        due(1, "outcome", 1);
        due(1, "outcome", 2);
        sentence("1 GOOD at once, what a MEMORY KEPT");
        works(MEMORY, 5, 0, 0, 0);
        make("order", 0, 0, READ, 0, 0);
        make("second", 1);
        make("order", 0, 0, READ, 0, 0);
        due(1, "outcome", 1);
        sentence("1 GOOD by the second of a RETRY");
        works(RETRY, 2, 1, 0, ANY);
        make("fault", 0, READ, 1, 1, LINE);
        make("order", 0, 0, READ, 0, 0);
        make("second", 3);
        due(1, "outcome", 0);
        sentence("1 GOOD through a FALLBACK that was not needed");
        works(FALLBACK, 0, 9, 0, ANY);
        make("order", 0, 0, READ, 0, 0);
        make("second", 1);
        due(1, "outcome", 0);
    }

    private static void failures() {
        sentence("2 a FAILURE, of a STATION and of a GUARD");
        works(DEADLINE, 1, 0, 0, 0);
        make("slow", 0, READ, 0, 0, 1);
        make("order", 0, 0, READ, 0, 0);
        make("order", 0, 0, TAKE, 51, 0);
        make("second", 1);
        due(2, "outcome", 0);
        due(2, "outcome", 1);
        sentence("2 a FAILURE at once");
        works(BULKHEAD, 1, 0, 0, 0);
        makeAll(2, "order", 0, 0, READ, 0, 0);
        due(2, "outcome", 1);
        sentence("2 a FAILURE that a FALLBACK does not NAME");
        works(FALLBACK, 0, 9, 0, LINE);
        make("order", 0, 0, TAKE, 51, 0);
        make("second", 1);
        due(2, "outcome", 0);
        sentence("2 a FAILURE of the other STATION, too");
        works(FALLBACK, 1, 1, 0, ANY);
        make("order", 0, 0, TAKE, 51, 0);
        make("second", 2);
        due(2, "outcome", 0);
    }

    private static void byFallback() {
        sentence("3 GOOD by a FALLBACK, a value");
        works(FALLBACK, 0, 9, 0, DRY);
        make("order", 0, 0, TAKE, 51, 0);
        make("second", 1);
        due(3, "outcome", 0);
        sentence("3 GOOD by a FALLBACK, a STATION");
        works(FALLBACK, 1, 1, 0, SILENT);
        make("fault", 0, TAKE, 1, 1, SILENT);
        make("order", 0, 0, TAKE, 1, 0);
        make("second", 2);
        due(3, "outcome", 0);
        due(49, "level", 1);
        sentence("3 GOOD by a FALLBACK at once: what is refused within");
        make("station", 50, 100, 1);
        make("guard", FALLBACK, 0, 9, 0, CROWDED);
        make("guard", BULKHEAD, 1, 0, 0, 0);
        tower(0, 1);
        makeAll(2, "order", 0, 0, READ, 0, 0);
        order(1, 3, 9, NONE, 0, 0);
    }

    private static void staysSoOutward() {
        int[][] outer = {{FUSE, 1, 1, 0, ANY}, {BULKHEAD, 1, 1, 0, 0}, {LIMIT, 1, 1, 0, 0}, {DEADLINE, 9, 0, 0, 0},
            {RETRY, 2, 1, 0, ANY}, {HEDGE, 9, 0, 0, 0}, {MEMORY, 9, 0, 0, 0}, {JOIN, 0, 0, 0, 0}, {TRANSLATOR, 0, WORD, 0, ANY}};
        for (int[] guard : outer) {
            sentence("an answer stays so, as it goes outward, through sort " + guard[0]);
            works(guard);
            make("guard", FALLBACK, 0, 9, 0, ANY);
            tower(0, 1);
            make("order", 1, 0, TAKE, 51, 0);
            make("second", 1);
            order(0, 3, 9, NONE, 0, 1);
        }
        sentence("an answer stays so through a MEMORY that KEPT it, till another one is KEPT");
        works(MEMORY, 2, 0, 0, 0);
        make("guard", FALLBACK, 0, 9, 0, ANY);
        tower(0, 1);
        make("fault", 0, READ, 1, 1, LINE);
        make("order", 1, 0, READ, 0, 0);
        make("second", 3);
        make("order", 1, 0, READ, 0, 0);
        order(1, 3, 9, NONE, 3, 3);
        make("order", 0, 0, READ, 0, 0);
        due(3, "outcome", 2);
        make("second", 1);
        make("order", 1, 0, READ, 0, 0);
        make("second", 1);
        order(3, 1, 50, NONE, 4, 5);
        make("order", 1, 0, READ, 0, 0);
        due(1, "outcome", 4);
        sentence("an answer stays so for those JOINED");
        works(JOIN, 0, 0, 0, 0);
        make("guard", FALLBACK, 0, 9, 0, ANY);
        tower(0, 1);
        make("fault", 0, READ, 1, 1, LINE);
        make("order", 1, 0, READ, 0, 0);
        make("order", 0, 0, READ, 0, 0);
        make("second", 1);
        order(0, 3, 9, NONE, 0, 1);
        order(1, 3, 9, NONE, 0, 1);
        sentence("one that JOINS outside of a FALLBACK of its own that was not needed is GOOD alone");
        works(JOIN, 0, 0, 0, 0);
        make("guard", FALLBACK, 0, 9, 0, ANY);
        tower(1, 0);
        make("order", 0, 0, READ, 0, 0);
        make("order", 1, 0, READ, 0, 0);
        make("second", 1);
        due(1, "outcome", 1);
    }

    private static void cancelled() {
        sentence("4 cancelled, and so for ever");
        works(RETRY, 2, 1, 0, ANY);
        make("order", 0, 0, READ, 0, 0);
        make("cancel", 0);
        due(4, "outcome", 0);
        make("second", 9);
        due(4, "outcome", 0);
        sentence("4 cancelled, though a FALLBACK tried its other STATION");
        works(FALLBACK, 1, 1, 0, ANY);
        make("order", 0, 0, TAKE, 51, 0);
        make("second", 1);
        make("cancel", 0);
        make("second", 1);
        order(0, 4, NONE, NONE, 0, 1);
    }
}
