/** Promise 5, guard: NONE: FALLBACK with a 1: STATION b; RANGE: sort, a, b, c, named (0 .. 15), as told; FULL. */
public final class Promise05Test extends Told {
    /** sort, then the lowest and the highest a, b, c, named; of a FALLBACK those of a value. */
    private static final int[][] BOUNDS = {
        {FUSE, 1, 20, 1, 1000, 0, 0, 0, 15},
        {BULKHEAD, 1, 10, 0, 10, 0, 0, 0, 0},
        {LIMIT, 1, 100, 1, 100, 0, 0, 0, 0},
        {DEADLINE, 1, 1000, 0, 0, 0, 0, 0, 0},
        {RETRY, 2, 6, 1, 50, 0, 1, 0, 15},
        {HEDGE, 1, 100, 0, 0, 0, 0, 0, 0},
        {FALLBACK, 0, 0, 0, MOST, 0, 0, 0, 15},
        {MEMORY, 1, 1000, 0, 0, 0, 0, 0, 0},
        {JOIN, 0, 0, 0, 0, 0, 0, 0, 0},
        {TRANSLATOR, 0, 0, 0, 15, 0, 0, 0, 15},
    };
    private static final String[] NUMBERS = {"a", "b", "c", "named"};

    public static void main(String[] args) {
        promise("5, guard");
        for (int[] bounds : BOUNDS) {
            for (int at = 0; at < 4; at++) {
                oneNumber(bounds, at);
            }
        }
        sorts();
        fallbackOfStation();
        full();
        fuseAtItsBounds();
        bulkheadAtItsBounds();
        limitAtItsBounds();
        deadlineAtItsBounds();
        retryAtItsBounds();
        hedgeAtItsBounds();
        fallbackAtItsBounds();
        memoryAtItsBounds();
        translatorAtItsBounds();
        done();
    }

    private static int[] with(int[] bounds, int at, int number) {
        int[] numbers = {bounds[0], bounds[1], bounds[3], bounds[5], bounds[7]};
        numbers[at + 1] = number;
        return numbers;
    }

    private static void oneNumber(int[] bounds, int at) {
        int low = bounds[2 * at + 1];
        int high = bounds[2 * at + 2];
        String which = "sort " + bounds[0] + ", " + NUMBERS[at] + " " + low + " .. " + high;
        sentence(which + ": both are good");
        due(0, "guard", with(bounds, at, low));
        due(1, "guard", with(bounds, at, high));
        sentence(which + ": below");
        refused(RANGE, "guard", with(bounds, at, low - 1));
        refused(RANGE, "guard", with(bounds, at, MIN));
        sentence(which + ": above");
        // one above a value a FALLBACK has a STATION
        refused(RANGE, "guard", with(bounds, at, bounds[0] == FALLBACK && at == 0 ? 2 : high + 1));
        refused(RANGE, "guard", with(bounds, at, MAX));
    }

    private static void sorts() {
        sentence("RANGE: sort");
        int[] wrong = {-1, 10, MIN, MAX};
        for (int sort : wrong) {
            refused(RANGE, "guard", sort, 0, 0, 0, 0);
            refused(RANGE, "guard", sort, 1, 1, 0, 0);
        }
    }

    private static void fallbackOfStation() {
        sentence("NONE: FALLBACK with a 1: STATION b, one is there");
        make("station", 5, 9, 1);
        refused(NONE, "guard", FALLBACK, 1, -1, 0, ANY);
        refused(NONE, "guard", FALLBACK, 1, 1, 0, ANY);
        refused(NONE, "guard", FALLBACK, 1, MIN, 0, ANY);
        refused(NONE, "guard", FALLBACK, 1, MAX, 0, ANY);
        due(0, "guard", FALLBACK, 1, 0, 0, ANY);
        sentence("NONE: FALLBACK with a 1: STATION b, all eight are there");
        makeAll(8, "station", 5, 9, 1);
        due(0, "guard", FALLBACK, 1, 7, 0, WORD);
        refused(NONE, "guard", FALLBACK, 1, 8, 0, WORD);
        sentence("NONE is ahead of RANGE");
        refused(NONE, "guard", FALLBACK, 1, 0, 1, 16);
        sentence("RANGE of a FALLBACK with a STATION: c, named");
        make("station", 5, 9, 1);
        refused(RANGE, "guard", FALLBACK, 1, 0, 1, ANY);
        refused(RANGE, "guard", FALLBACK, 1, 0, -1, ANY);
        refused(RANGE, "guard", FALLBACK, 1, 0, 0, 16);
        refused(RANGE, "guard", FALLBACK, 1, 0, 0, -1);
        sentence("a of a FALLBACK that is neither 0 nor 1 needs no STATION to be out of RANGE");
        refused(RANGE, "guard", FALLBACK, 2, 0, 0, ANY);
        refused(RANGE, "guard", FALLBACK, -1, 0, 0, ANY);
        sentence("a value needs no STATION");
        due(0, "guard", FALLBACK, 0, 8, 0, ANY);
        sentence("b of other sorts is no STATION");
        due(0, "guard", BULKHEAD, 1, 9, 0, 0);
    }

    private static void full() {
        sentence("its number: from 0 on, 24 at most");
        for (int i = 0; i < 24; i++) {
            due(i, "guard", i % 3, 1, 1, 0, 0);
            due(i + 1, "count", 3);
        }
        refused(FULL, "guard", JOIN, 0, 0, 0, 0);
        due(24, "count", 3);
        due(1, "on", 23);
        refused(NONE, "on", 24);
        sentence("NONE and RANGE are ahead of FULL");
        makeAll(24, "guard", JOIN, 0, 0, 0, 0);
        refused(NONE, "guard", FALLBACK, 1, 0, 0, ANY);
        refused(RANGE, "guard", 10, 0, 0, 0, 0);
        refused(RANGE, "guard", JOIN, 1, 0, 0, 0);
        refused(RANGE, "guard", JOIN, 0, 1, 0, 0);
        refused(RANGE, "guard", JOIN, 0, 0, 1, 0);
        refused(RANGE, "guard", JOIN, 0, 0, 0, 1);
        sentence("a refused one takes no number");
        refused(RANGE, "guard", FUSE, 0, 1, 0, 0);
        due(0, "guard", FUSE, 1, 1, 0, 0);
    }

    // ---- that the bounds do what they say

    /** A STATION of that DELAY and a tower of one GUARD. */
    private static void one(int delay, int... guard) {
        make("station", 50, 100, delay);
        make("guard", guard);
        tower(0);
    }

    private static void fuseAtItsBounds() {
        sentence("FUSE a 1: OPEN by the first");
        one(1, FUSE, 1, 1, 0, BROKEN);
        make("fault", 0, READ, 1, 1, BROKEN);
        make("order", 0, 0, READ, 0, 0);
        make("second", 1);
        all("fuse", 0, 1, 1, 2);
        sentence("FUSE a 20: CLOSED by 19");
        one(1, FUSE, 20, 1, 0, BROKEN);
        make("fault", 0, READ, 1, 2, BROKEN);
        makeAll(19, "order", 0, 0, READ, 0, 0);
        due(19, "second", 1);
        all("fuse", 0, 0, 19, 0);
        make("order", 0, 0, READ, 0, 0);
        due(1, "second", 1);
        all("fuse", 0, 1, 20, 3);
        sentence("FUSE b 1: refused before its second UNTIL, a trial from it on");
        one(1, FUSE, 1, 1, 0, BROKEN);
        make("fault", 0, READ, 1, 1, BROKEN);
        make("order", 0, 0, READ, 0, 0);
        make("second", 1);
        make("order", 0, 0, READ, 0, 0);
        due(2, "outcome", 1);
        make("second", 1);
        make("order", 0, 0, READ, 0, 0);
        due(0, "outcome", 2);
        sentence("FUSE b 1000: refused before its second UNTIL, a trial from it on");
        one(1, FUSE, 1, 1000, 0, BROKEN);
        make("fault", 0, READ, 1, 1, BROKEN);
        make("order", 0, 0, READ, 0, 0);
        make("second", 1);
        due(1001, "fuse", 0, 2);
        seconds(999);
        make("order", 0, 0, READ, 0, 0);
        due(2, "outcome", 1);
        make("second", 1);
        make("order", 0, 0, READ, 0, 0);
        due(0, "outcome", 2);
        due(2, "fuse", 0, 0);
    }

    private static void bulkheadAtItsBounds() {
        sentence("BULKHEAD a 1, b 0: one AT WORK, none waits");
        one(1, BULKHEAD, 1, 0, 0, 0);
        makeAll(2, "order", 0, 0, READ, 0, 0);
        all("bulkhead", 0, 1, 0, 1);
        sentence("BULKHEAD a 10, b 10: ten AT WORK, ten wait");
        one(1, BULKHEAD, 10, 10, 0, 0);
        makeAll(10, "order", 0, 0, READ, 0, 0);
        all("bulkhead", 0, 10, 0, 0);
        makeAll(10, "order", 0, 0, READ, 0, 0);
        all("bulkhead", 0, 10, 10, 0);
        make("order", 0, 0, READ, 0, 0);
        all("bulkhead", 0, 10, 10, 1);
        due(10, "second", 1);
        all("bulkhead", 0, 10, 0, 1);
    }

    private static void limitAtItsBounds() {
        sentence("LIMIT a 1, b 1");
        one(1, LIMIT, 1, 1, 0, 0);
        due(1, "tokens", 0);
        makeAll(2, "order", 0, 0, READ, 0, 0);
        due(0, "tokens", 0);
        due(0, "outcome", 0);
        due(2, "outcome", 1);
        due(1, "second", 1);
        due(1, "tokens", 0);
        sentence("LIMIT a 100, b 100: b more, a at most");
        one(1, LIMIT, 100, 100, 0, 0);
        due(100, "tokens", 0);
        makeAll(60, "order", 0, 0, READ, 0, 0);
        due(40, "tokens", 0);
        due(60, "second", 1);
        due(100, "tokens", 0);
        sentence("LIMIT a 100, b 1");
        one(1, LIMIT, 100, 1, 0, 0);
        makeAll(2, "order", 0, 0, READ, 0, 0);
        make("second", 1);
        due(99, "tokens", 0);
    }

    private static void deadlineAtItsBounds() {
        sentence("DEADLINE a 1: LATE 1 second later");
        one(2, DEADLINE, 1, 0, 0, 0);
        make("order", 0, 0, READ, 0, 0);
        due(0, "outcome", 0);
        due(1, "second", 1);
        all("failure", 0, LATE, 1, 0, NONE, NONE, NONE);
        sentence("DEADLINE a 1: a TRY that ENDS in that second is in time");
        one(1, DEADLINE, 1, 0, 0, 0);
        make("order", 0, 0, READ, 0, 0);
        due(1, "second", 1);
        due(1, "outcome", 0);
        sentence("DEADLINE a 1000: LATE 1000 seconds later");
        one(1, DEADLINE, 1000, 0, 0, 0);
        make("slow", 0, READ, 0, 0, 1000);
        make("order", 0, 0, READ, 0, 0);
        seconds(999);
        due(0, "outcome", 0);
        due(1, "second", 1);
        due(LATE, "failure", 0, 0);
        sentence("DEADLINE a 1000: 1000 seconds are in time");
        one(1, DEADLINE, 1000, 0, 0, 0);
        make("slow", 0, READ, 0, 0, 999);
        make("order", 0, 0, READ, 0, 0);
        seconds(1000);
        due(1, "outcome", 0);
    }

    private static void retries(int a, int b, int c, int ends, int... begins) {
        sentence("RETRY a " + a + ", b " + b + ", c " + c);
        one(1, RETRY, a, b, c, ANY);
        make("fault", 0, READ, 0, MAX, NOISE);
        make("order", 0, 0, READ, 0, 0);
        seconds(ends - 1);
        due(0, "outcome", 0);
        due(1, "second", 1);
        due(a + 1, "count", 6);
        due(a, "count", 7);
        calls(5, 1, begins);
        order(0, 2, NONE, a - 1, 0, ends);
    }

    private static void retryAtItsBounds() {
        retries(2, 1, 0, 3, 0, 2);
        retries(2, 1, 1, 3, 0, 2);
        retries(6, 1, 0, 11, 0, 2, 4, 6, 8, 10);
        retries(6, 1, 1, 37, 0, 2, 5, 10, 19, 36);
        retries(6, 50, 0, 256, 0, 51, 102, 153, 204, 255);
        retries(6, 50, 1, 1556, 0, 51, 152, 353, 754, 1555);
        sentence("RETRY a 6: the sixth may be GOOD");
        one(1, RETRY, 6, 1, 0, ANY);
        make("fault", 0, READ, 0, 10, NOISE);
        make("order", 0, 0, READ, 0, 0);
        make("second", 11);
        due(1, "outcome", 0);
        due(5, "count", 7);
    }

    private static void hedgeAtItsBounds() {
        sentence("HEDGE a 1: a second one 1 second later");
        one(2, HEDGE, 1, 0, 0, 0);
        make("order", 0, 0, READ, 0, 0);
        due(2, "count", 6);
        make("second", 1);
        due(3, "count", 6);
        sentence("HEDGE a 100: a second one 100 seconds later");
        one(100, HEDGE, 100, 0, 0, 0);
        make("slow", 0, READ, 0, 0, 1);
        make("order", 0, 0, READ, 0, 0);
        make("second", 99);
        due(2, "count", 6);
        make("second", 1);
        due(3, "count", 6);
        due(100, "call", 2, 5);
        sentence("HEDGE a 100: none, if the first ENDS in that second");
        one(100, HEDGE, 100, 0, 0, 0);
        make("order", 0, 0, READ, 0, 0);
        due(1, "second", 100);
        due(2, "count", 6);
    }

    private static void fallbackAtItsBounds() {
        int[] values = {0, MOST};
        for (int value : values) {
            sentence("FALLBACK, a value " + value);
            one(1, FALLBACK, 0, value, 0, ANY);
            make("fault", 0, READ, 1, 1, LINE);
            make("order", 0, 0, READ, 0, 0);
            make("second", 1);
            order(0, 3, value, NONE, 0, 1);
        }
        sentence("FALLBACK, STATION 7");
        make("station", 1, 100, 1);
        makeAll(6, "station", 2, 100, 1);
        make("station", 70, 100, 1);
        make("guard", FALLBACK, 1, 7, 0, ANY);
        tower(0);
        make("fault", 0, READ, 1, 1, LINE);
        make("order", 0, 0, READ, 0, 0);
        make("second", 2);
        order(0, 3, 70, NONE, 0, 2);
        sentence("FALLBACK, the STATION of the ORDER itself");
        one(1, FALLBACK, 1, 0, 0, ANY);
        make("fault", 0, READ, 1, 1, LINE);
        make("order", 0, 0, READ, 0, 0);
        due(1, "second", 2);
        order(0, 3, 50, NONE, 0, 2);
    }

    private static void memoryAtItsBounds() {
        int[] ages = {1, 1000};
        for (int age : ages) {
            sentence("MEMORY a " + age + ": TIME - t at most a");
            one(1, MEMORY, age, 0, 0, 0);
            make("order", 0, 0, READ, 0, 0);
            make("second", 1);
            seconds(age);
            make("order", 0, 0, READ, 0, 0);
            order(1, 1, 50, NONE, 1 + age, 1 + age);
            make("second", 1);
            make("order", 0, 0, READ, 0, 0);
            due(0, "outcome", 2);
        }
    }

    private static void translatorAtItsBounds() {
        int[] kinds = {ANY, WORD};
        for (int kind : kinds) {
            sentence("TRANSLATOR into KIND " + kind);
            one(1, TRANSLATOR, 0, kind, 0, ANY);
            make("fault", 0, READ, 1, 1, LINE);
            make("order", 0, 0, READ, 0, 0);
            make("second", 1);
            all("failure", 1, kind, 1, 0, NONE, 0, NONE);
        }
        sentence("NAMES 15: WORD alone");
        make("station", 50, 100, 1);
        make("guard", FALLBACK, 0, 7, 0, WORD);
        make("guard", TRANSLATOR, 0, WORD, 0, LINE);
        make("guard", TRANSLATOR, 0, PLAN, 0, LINE);
        tower(0, 1);
        tower(0, 2);
        make("fault", 0, READ, 1, 1, NOISE);
        make("order", 0, 0, READ, 0, 0);
        make("order", 1, 0, READ, 0, 0);
        make("second", 1);
        due(3, "outcome", 0);
        due(2, "outcome", 1);
    }
}
