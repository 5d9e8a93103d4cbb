/** Promise 19, failure: KIND, second, GUARD (NONE), STATION (NONE), CAUSE (NONE), SUPPRESSED under (NONE). NONE. */
public final class Promise19Test extends Told {
    public static void main(String[] args) {
        promise("19, failure");
        noSuchNumber();
        ofStations();
        ofGuards();
        causes();
        suppressedByRetry();
        suppressedByHedge();
        named();
        done();
    }

    private static void works(int... guard) {
        make("station", 50, 100, 1);
        make("guard", guard);
        tower(0);
    }

    private static void noSuchNumber() {
        sentence("NONE: none is there");
        due(NONE, "failure", 0, 0);
        sentence("NONE: no such FAILURE, no such what");
        make("station", 50, 100, 1);
        make("tower");
        makeAll(2, "order", 0, 0, TAKE, 51, 0);
        make("second", 1);
        int[] failures = {-1, 2, MIN, MAX};
        for (int failure : failures) {
            for (int what = 0; what < 6; what++) {
                due(NONE, "failure", failure, what);
            }
        }
        int[] whats = {-1, 6, MIN, MAX};
        for (int what : whats) {
            due(NONE, "failure", 0, what);
        }
        due(DRY, "failure", 1, 0);
    }

    private static void ofStations() {
        sentence("DRY: its STATION, no GUARD; numbered from 0 on");
        make("station", 50, 100, 1);
        make("station", 50, 100, 1);
        make("tower");
        make("order", 0, 1, TAKE, 51, 0);
        make("order", 0, 0, GIVE, 51, 0);
        make("second", 1);
        all("failure", 0, DRY, 1, NONE, 1, NONE, NONE);
        all("failure", 1, OVERFULL, 1, NONE, 0, NONE, NONE);
        sentence("DRY and FULL at the STATION of a FALLBACK: that STATION, with its own LEVEL and CAPACITY");
        make("station", 50, 60, 1);
        make("station", 5, 9, 1);
        make("guard", FALLBACK, 1, 1, 0, LINE);
        tower(0);
        make("fault", 0, TAKE, 1, 1, LINE);
        make("fault", 0, GIVE, 1, 1, LINE);
        make("order", 0, 0, TAKE, 6, 0);
        make("order", 0, 0, GIVE, 5, 0);
        due(2, "second", 2);
        all("failure", 2, DRY, 2, NONE, 1, 0, NONE);
        all("failure", 3, OVERFULL, 2, NONE, 1, 1, NONE);
        sentence("what would be FULL at the STATION of the ORDER is not at that of its FALLBACK");
        make("station", 50, 50, 1);
        make("station", 0, 9, 1);
        make("guard", FALLBACK, 1, 1, 0, OVERFULL);
        tower(0);
        make("order", 0, 0, GIVE, 9, 0);
        due(1, "second", 2);
        order(0, 3, 9, NONE, 0, 2);
        due(9, "level", 1);
        sentence("a FAILURE behind GUARDS is the same one, all the way");
        works(JOIN, 0, 0, 0, 0);
        make("guard", DEADLINE, 9, 0, 0, 0);
        tower(1, 0);
        make("order", 1, 0, TAKE, 51, 0);
        make("second", 1);
        calls(9, 0, 0, 0, 0);
        due(1, "count", 7);
        all("failure", 0, DRY, 1, NONE, 0, NONE, NONE);
    }

    private static void ofGuards() {
        sentence("all FAILURES of GUARDS have that GUARD, no STATION: OPEN");
        works(JOIN, 0, 0, 0, 0);
        make("guard", FUSE, 1, 9, 0, ANY);
        tower(1);
        make("order", 1, 0, TAKE, 51, 0);
        make("second", 1);
        make("order", 1, 0, READ, 0, 0);
        all("failure", 1, OPEN, 1, 1, NONE, NONE, NONE);
        sentence("CROWDED");
        works(BULKHEAD, 1, 0, 0, 0);
        makeAll(2, "order", 0, 0, READ, 0, 0);
        all("failure", 0, CROWDED, 0, 0, NONE, NONE, NONE);
        sentence("SHORT");
        works(LIMIT, 1, 1, 0, 0);
        makeAll(2, "order", 0, 0, READ, 0, 0);
        all("failure", 0, SHORT, 0, 0, NONE, NONE, NONE);
        sentence("LATE");
        works(DEADLINE, 3, 0, 0, 0);
        make("slow", 0, READ, 0, 9, 9);
        make("order", 0, 0, READ, 0, 0);
        make("second", 3);
        all("failure", 0, LATE, 3, 0, NONE, NONE, NONE);
        sentence("GONE");
        works(JOIN, 0, 0, 0, 0);
        makeAll(2, "order", 0, 0, READ, 0, 0);
        make("cancel", 0);
        all("failure", 0, GONE, 0, 0, NONE, NONE, NONE);
        sentence("of a TRANSLATOR");
        works(TRANSLATOR, 0, PLAN, 0, ANY);
        make("order", 0, 0, TAKE, 51, 0);
        make("second", 1);
        all("failure", 1, PLAN, 1, 0, NONE, 0, NONE);
    }

    private static void causes() {
        sentence("TRANSLATOR: whose CAUSE is that; that one has none");
        works(TRANSLATOR, 0, WORD, 0, ANY);
        make("order", 0, 0, TAKE, 51, 0);
        make("second", 1);
        due(0, "failure", 1, 4);
        due(NONE, "failure", 0, 4);
        sentence("FALLBACK: that of the other STATION has the first one as CAUSE");
        make("station", 50, 100, 1);
        make("station", 50, 100, 1);
        make("guard", FALLBACK, 1, 1, 0, ANY);
        tower(0);
        make("order", 0, 0, TAKE, 51, 0);
        make("second", 2);
        all("failure", 1, DRY, 2, NONE, 1, 0, NONE);
        due(NONE, "failure", 0, 4);
        sentence("FALLBACK: a value has no FAILURE, and the first one no CAUSE");
        works(FALLBACK, 0, 1, 0, ANY);
        make("order", 0, 0, TAKE, 51, 0);
        make("second", 1);
        due(1, "count", 7);
        due(NONE, "failure", 0, 4);
        sentence("a CAUSE of a CAUSE: TRANSLATOR, FALLBACK, DEADLINE");
        make("station", 50, 100, 5);
        make("guard", TRANSLATOR, 0, LINE, 0, BROKEN);
        make("guard", FALLBACK, 1, 0, 0, LATE);
        make("guard", DEADLINE, 1, 0, 0, 0);
        make("fault", 0, READ, 0, 9, BROKEN);
        tower(0, 1, 2);
        make("order", 0, 0, READ, 0, 0);
        make("second", 6);
        all("failure", 0, LATE, 1, 2, NONE, NONE, NONE);
        all("failure", 1, BROKEN, 6, NONE, 0, 0, NONE);
        all("failure", 2, LINE, 6, 0, NONE, 1, NONE);
    }

    private static void suppressedByRetry() {
        sentence("RETRY, the a-th: all before are SUPPRESSED under it, itself under none");
        works(RETRY, 3, 1, 0, ANY);
        make("order", 0, 0, TAKE, 51, 0);
        make("second", 4);
        due(NONE, "failure", 0, 5);
        due(NONE, "failure", 1, 5);
        make("second", 1);
        due(2, "failure", 0, 5);
        due(2, "failure", 1, 5);
        due(NONE, "failure", 2, 5);
        sentence("RETRY, not NAMED: those before are SUPPRESSED under it");
        works(RETRY, 3, 1, 0, LINE);
        make("fault", 0, TAKE, 1, 1, NOISE);
        make("order", 0, 0, TAKE, 51, 0);
        make("second", 3);
        due(1, "of", 0, 1);
        due(1, "failure", 0, 5);
        due(NONE, "failure", 1, 5);
        sentence("RETRY, not NAMED, the first: none is before");
        works(RETRY, 3, 1, 0, LINE);
        make("order", 0, 0, TAKE, 51, 0);
        make("second", 1);
        due(0, "of", 0, 1);
        due(NONE, "failure", 0, 5);
        sentence("RETRY, GOOD at last: none is SUPPRESSED");
        works(RETRY, 3, 1, 0, ANY);
        make("fault", 0, TAKE, 1, 3, NOISE);
        make("order", 0, 0, TAKE, 1, 0);
        make("second", 5);
        due(1, "outcome", 0);
        due(NONE, "failure", 0, 5);
        due(NONE, "failure", 1, 5);
        sentence("RETRY, TAKEN BACK: none is SUPPRESSED");
        works(RETRY, 3, 1, 0, ANY);
        make("order", 0, 0, TAKE, 51, 0);
        make("second", 4);
        make("cancel", 0);
        due(NONE, "failure", 0, 5);
        sentence("RETRY: one that is SUPPRESSED already stays where it is");
        make("station", 50, 100, 1);
        make("guard", RETRY, 2, 2, 0, ANY);
        make("guard", JOIN, 0, 0, 0, 0);
        make("guard", RETRY, 2, 1, 0, ANY);
        make("fault", 0, READ, 0, 9, SILENT);
        tower(0, 1);
        tower(2, 1);
        make("order", 0, 0, READ, 0, 0);
        make("order", 1, 0, READ, 0, 0);
        make("second", 3);
        due(1, "of", 1, 1);
        due(1, "failure", 0, 5);
        make("second", 1);
        due(2, "of", 0, 1);
        due(1, "failure", 0, 5);
        due(NONE, "failure", 1, 5);
        due(NONE, "failure", 2, 5);
    }

    private static void suppressedByHedge() {
        sentence("HEDGE, both fail, the second one first: the first one's is SUPPRESSED under it");
        works(HEDGE, 1, 0, 0, 0);
        make("slow", 0, TAKE, 0, 0, 3);
        make("fault", 0, TAKE, 2, 2, NOISE);
        make("order", 0, 0, TAKE, 51, 0);
        make("second", 2);
        due(0, "outcome", 0);
        make("second", 2);
        due(0, "of", 0, 1);
        due(NONE, "failure", 0, 5);
        due(0, "failure", 1, 5);
        sentence("HEDGE, both fail, the first one first: the second one's is SUPPRESSED under it");
        works(HEDGE, 1, 0, 0, 0);
        make("slow", 0, TAKE, 0, 0, 1);
        make("slow", 0, TAKE, 1, 1, 5);
        make("order", 0, 0, TAKE, 51, 0);
        make("second", 2);
        due(0, "outcome", 0);
        due(2, "call", 1, 7);
        make("second", 5);
        due(0, "of", 0, 1);
        calls(9, 1, 0, 1);
        due(NONE, "failure", 0, 5);
        due(0, "failure", 1, 5);
        sentence("HEDGE, one fails, the other one is GOOD: none is SUPPRESSED");
        works(HEDGE, 1, 0, 0, 0);
        make("slow", 0, TAKE, 0, 0, 3);
        make("fault", 0, TAKE, 2, 2, NOISE);
        make("order", 0, 0, TAKE, 1, 0);
        make("second", 4);
        due(1, "outcome", 0);
        due(NONE, "failure", 0, 5);
        sentence("HEDGE: if it is another one: the same FAILURE is not SUPPRESSED under itself");
        works(HEDGE, 1, 0, 0, 0);
        make("guard", JOIN, 0, 0, 0, 0);
        make("slow", 0, TAKE, 0, 0, 3);
        tower(0, 1);
        make("order", 1, 0, TAKE, 51, 0);
        make("second", 4);
        due(0, "of", 0, 1);
        due(1, "count", 7);
        due(NONE, "failure", 0, 5);
        sentence("HEDGE: and under none: one that is SUPPRESSED already stays where it is");
        make("station", 50, 100, 3);
        make("guard", HEDGE, 1, 0, 0, 0);
        make("guard", BULKHEAD, 1, 0, 0, 0);
        make("guard", JOIN, 0, 0, 0, 0);
        make("guard", HEDGE, 1, 0, 0, 0);
        make("guard", BULKHEAD, 1, 0, 0, 0);
        tower(0, 1, 2);
        tower(3, 4, 2);
        make("order", 0, 0, TAKE, 51, 0);
        make("order", 1, 0, TAKE, 51, 0);
        due(2, "second", 3);
        due(3, "count", 7);
        due(0, "of", 0, 1);
        due(1, "of", 1, 1);
        due(0, "failure", 2, 5);
        due(NONE, "failure", 0, 5);
        due(NONE, "failure", 1, 5);
    }

    /** A FAILURE whose KIND is OF what a GUARD NAMES; by a FALLBACK it is seen. */
    private static void named() {
        int[][] chains = {{LINE, 0, 1}, {SILENT, 0, 1, 2}, {NOISE, 0, 1, 3}, {AT_STATION, 0, 4}, {DRY, 0, 4, 5}, {OVERFULL, 0, 4, 6},
            {BROKEN, 0, 4, 7}};
        for (int[] chain : chains) {
            for (int named = ANY; named <= WORD; named++) {
                boolean is = false;
                for (int i = 1; i < chain.length; i++) {
                    is |= chain[i] == named;
                }
                sentence("a FAILURE of KIND " + chain[0] + " is NAMED by " + named + ": " + is);
                works(FALLBACK, 0, 7, 0, named);
                make("fault", 0, READ, 1, 1, chain[0]);
                make("order", 0, 0, READ, 0, 0);
                make("second", 1);
                due(is ? 3 : 2, "outcome", 0);
            }
        }
    }
}
