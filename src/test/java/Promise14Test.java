/**
 * Promise 14, alarm: NONE: the GUARD, STATION (also a GUARD of another sort); RANGE: sort, y not 0 .. 1000000 (of 0 not 0, of
 * 2 not 1 .. 10), of 3 x not 0; FULL.
 */
public final class Promise14Test extends Told {
    public static void main(String[] args) {
        promise("14, alarm");
        noSuchNumber();
        sorts();
        numbers();
        full();
        done();
    }

    /** STATIONS 0, 1; GUARD 0 a FUSE, 1 a BULKHEAD, 2 .. 9 of the other sorts. */
    private static void works() {
        make("station", 50, 100, 1);
        make("station", 50, 100, 1);
        make("guard", FUSE, 1, 1, 0, 0);
        make("guard", BULKHEAD, 1, 1, 0, 0);
        make("guard", LIMIT, 1, 1, 0, 0);
        make("guard", DEADLINE, 1, 0, 0, 0);
        make("guard", RETRY, 2, 1, 0, 0);
        make("guard", HEDGE, 1, 0, 0, 0);
        make("guard", FALLBACK, 0, 0, 0, 0);
        make("guard", MEMORY, 1, 0, 0, 0);
        make("guard", JOIN, 0, 0, 0, 0);
        make("guard", TRANSLATOR, 0, 0, 0, 0);
    }

    private static void noSuchNumber() {
        int[] noGuard = {-1, 10, MIN, MAX};
        sentence("NONE: the GUARD of sort 0, also one of another sort");
        works();
        for (int x : noGuard) {
            refused(NONE, "alarm", 0, x, 0);
        }
        for (int x = 1; x < 10; x++) {
            refused(NONE, "alarm", 0, x, 0);
        }
        due(0, "alarm", 0, 0, 0);
        sentence("NONE: the STATION of sort 1");
        works();
        int[] noStation = {-1, 2, MIN, MAX};
        for (int x : noStation) {
            refused(NONE, "alarm", 1, x, 1);
        }
        due(0, "alarm", 1, 1, 1);
        sentence("NONE: the GUARD of sort 2, also one of another sort");
        works();
        for (int x : noGuard) {
            refused(NONE, "alarm", 2, x, 1);
        }
        for (int x = 0; x < 10; x++) {
            if (x != 1) {
                refused(NONE, "alarm", 2, x, 1);
            }
        }
        due(0, "alarm", 2, 1, 1);
        sentence("NONE is ahead of RANGE");
        works();
        refused(NONE, "alarm", 0, 1, 1);
        refused(NONE, "alarm", 1, 2, -1);
        refused(NONE, "alarm", 2, 0, 0);
    }

    private static void sorts() {
        sentence("RANGE: sort");
        works();
        int[] wrong = {-1, 4, MIN, MAX};
        for (int sort : wrong) {
            refused(RANGE, "alarm", sort, 0, 0);
            refused(RANGE, "alarm", sort, 1, 1);
            refused(RANGE, "alarm", sort, 99, 1);
        }
    }

    private static void numbers() {
        sentence("RANGE: y of 0 not 0");
        works();
        int[] ofZero = {-1, 1, MIN, MAX};
        for (int y : ofZero) {
            refused(RANGE, "alarm", 0, 0, y);
        }
        due(0, "alarm", 0, 0, 0);
        sentence("RANGE: y of 1 not 0 .. 1000000");
        works();
        int[] ofOne = {-1, MOST + 1, MIN, MAX};
        for (int y : ofOne) {
            refused(RANGE, "alarm", 1, 0, y);
        }
        due(0, "alarm", 1, 0, 0);
        due(1, "alarm", 1, 0, MOST);
        sentence("RANGE: y of 2 not 1 .. 10");
        works();
        int[] ofTwo = {0, -1, 11, MIN, MAX};
        for (int y : ofTwo) {
            refused(RANGE, "alarm", 2, 1, y);
        }
        due(0, "alarm", 2, 1, 1);
        due(1, "alarm", 2, 1, 10);
        sentence("RANGE: y of 3 not 0 .. 1000000");
        works();
        for (int y : ofOne) {
            refused(RANGE, "alarm", 3, 0, y);
        }
        due(0, "alarm", 3, 0, 0);
        due(1, "alarm", 3, 0, MOST);
        sentence("RANGE: of 3 x not 0");
        works();
        int[] xs = {-1, 1, MIN, MAX};
        for (int x : xs) {
            refused(RANGE, "alarm", 3, x, 0);
        }
        sentence("of 3 x is no number of anything");
        due(0, "alarm", 3, 0, 5);
    }

    private static void full() {
        sentence("its number: from 0 on, 10 at most");
        works();
        for (int i = 0; i < 10; i++) {
            due(i, "alarm", i % 4, i % 4 == 2 ? 1 : 0, i % 4 == 2 ? 1 : 0);
        }
        refused(FULL, "alarm", 3, 0, 0);
        due(0, "alarmed", 9, 0);
        due(NONE, "alarmed", 10, 0);
        sentence("NONE and RANGE are ahead of FULL");
        works();
        makeAll(10, "alarm", 3, 0, 0);
        refused(NONE, "alarm", 0, 1, 0);
        refused(NONE, "alarm", 1, 2, 0);
        refused(NONE, "alarm", 2, 0, 1);
        refused(RANGE, "alarm", 4, 0, 0);
        refused(RANGE, "alarm", 0, 0, 1);
        refused(RANGE, "alarm", 3, 1, 0);
        sentence("one is looked at from the next SECOND on, though what it looks for was so before");
        make("station", 0, 100, 1);
        make("second", 3);
        make("alarm", 1, 0, 1);
        all("alarmed", 0, 0, 0, NONE);
        due(0, "count", 14);
        make("second", 1);
        all("alarmed", 0, 1, 1, 4);
    }
}
