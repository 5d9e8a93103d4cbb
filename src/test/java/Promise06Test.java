/** Promise 6, on: how many the row has. NONE; RANGE: it has one of that sort; FULL: 5. */
public final class Promise06Test extends Told {
    public static void main(String[] args) {
        promise("6, on");
        noGuard();
        sorts();
        full();
        order();
        severalTowers();
        done();
    }

    /** A GUARD of each sort, with the sort's number. */
    private static void oneOfEach() {
        make("station", 50, 100, 1);
        make("guard", FUSE, 1, 1, 0, 0);
        make("guard", BULKHEAD, 1, 1, 0, 0);
        make("guard", LIMIT, 1, 1, 0, 0);
        make("guard", DEADLINE, 1, 0, 0, 0);
        make("guard", RETRY, 2, 1, 0, 0);
        make("guard", HEDGE, 1, 0, 0, 0);
        make("guard", FALLBACK, 0, 0, 0, 0);
        make("guard", MEMORY, 1, 0, 0, 0);
        make("guard", JOIN, 0, 0, 0, 0);
        make("guard", TRANSLATOR, 0, 0, 0, 0);
    }

    private static void noGuard() {
        sentence("NONE: no such GUARD, none is there");
        refused(NONE, "on", 0);
        sentence("NONE: no such GUARD, ten are there");
        oneOfEach();
        refused(NONE, "on", -1);
        refused(NONE, "on", 10);
        refused(NONE, "on", MIN);
        refused(NONE, "on", MAX);
        due(1, "on", 9);
        due(2, "on", 0);
        sentence("NONE: no such GUARD, all 24 are there");
        makeAll(24, "guard", JOIN, 0, 0, 0, 0);
        refused(NONE, "on", 24);
        due(1, "on", 23);
    }

    private static void sorts() {
        for (int sort = 0; sort < 10; sort++) {
            sentence("RANGE: it has one of sort " + sort);
            oneOfEach();
            due(1, "on", sort);
            refused(RANGE, "on", sort);
            due(1, "count", 12);
        }
        sentence("RANGE: it has another one of that sort");
        oneOfEach();
        make("guard", FUSE, 2, 2, 0, 0);
        due(1, "on", 10);
        due(2, "on", 1);
        refused(RANGE, "on", 0);
        refused(RANGE, "on", 10);
        due(2, "count", 12);
        sentence("FALLBACKS with a value and with a STATION are of one sort");
        oneOfEach();
        make("guard", FALLBACK, 1, 0, 0, 0);
        due(1, "on", 6);
        refused(RANGE, "on", 10);
        sentence("a tower that has that sort does not count: the row is empty then");
        oneOfEach();
        due(1, "on", 3);
        make("tower");
        due(1, "on", 3);
    }

    private static void full() {
        sentence("FULL: 5");
        oneOfEach();
        for (int i = 0; i < 5; i++) {
            due(i + 1, "on", i);
            due(i + 1, "count", 12);
        }
        refused(FULL, "on", 5);
        refused(FULL, "on", 9);
        due(5, "count", 12);
        sentence("NONE and RANGE are ahead of FULL");
        oneOfEach();
        for (int i = 0; i < 5; i++) {
            make("on", i);
        }
        refused(NONE, "on", 10);
        refused(RANGE, "on", 0);
        refused(RANGE, "on", 4);
        sentence("room again behind a tower");
        oneOfEach();
        for (int i = 0; i < 5; i++) {
            make("on", i);
        }
        make("tower");
        due(1, "on", 5);
    }

    private static void order() {
        sentence("as the innermost one");
        oneOfEach();
        tower(8, 2, 9, 0, 3);
        make("order", 0, 0, READ, 0, 0);
        calls(3, 0, 8, 2, 9, 0, 3, NONE);
        calls(1, 0, 0, 1, 2, 3, 4, 5);
    }

    private static void severalTowers() {
        sentence("a GUARD may be in several towers; what it has is one for all");
        oneOfEach();
        tower(2);
        tower(2);
        make("order", 0, 0, READ, 0, 0);
        due(0, "tokens", 2);
        make("order", 1, 0, READ, 0, 0);
        due(2, "outcome", 1);
    }
}
