/**
 * Promise 20, call: ORDER, DEPTH, parent (NONE), GUARD (NONE: a TRY), STATION (of a TRY, else NONE), when it BEGAN, ENDED
 * (NONE), how, answer (GOOD, else NONE), FAILURE (NONE), whether it WAITS, PAUSES, is JOINED. NONE. And what CALLS do.
 */
public final class Promise20Test extends Told {
    public static void main(String[] args) {
        promise("20, call");
        noSuchNumber();
        tries();
        guards();
        waits();
        pauses();
        joined();
        deadline();
        retry();
        hedge();
        fallback();
        translator();
        done();
    }

    private static void works(int delay, int... guard) {
        make("station", 50, 100, delay);
        make("guard", guard);
        tower(0);
    }

    private static void noSuchNumber() {
        sentence("NONE: none is there");
        due(NONE, "call", 0, 0);
        sentence("NONE: no such CALL, no such what");
        works(1, JOIN, 0, 0, 0, 0);
        make("order", 0, 0, READ, 0, 0);
        int[] numbers = {-1, 2, MIN, MAX};
        for (int call : numbers) {
            for (int what = 0; what < 11; what++) {
                due(NONE, "call", call, what);
            }
        }
        int[] whats = {-1, 11, MIN, MAX};
        for (int what : whats) {
            due(NONE, "call", 0, what);
        }
        due(0, "call", 1, 0);
    }

    private static void tries() {
        sentence("a TRY: UNDER WAY, then GOOD");
        make("station", 5, 100, 2);
        make("station", 50, 100, 2);
        make("tower");
        make("second", 3);
        make("order", 0, 1, READ, 0, 0);
        all("call", 0, 0, 0, NONE, NONE, 1, 3, NONE, 0, NONE, NONE, 0);
        make("second", 1);
        all("call", 0, 0, 0, NONE, NONE, 1, 3, NONE, 0, NONE, NONE, 0);
        make("second", 1);
        all("call", 0, 0, 0, NONE, NONE, 1, 3, 5, 1, 50, NONE, 0);
        sentence("a TRY: with a FAILURE");
        make("station", 5, 100, 2);
        make("tower");
        make("order", 0, 0, TAKE, 6, 0);
        make("second", 2);
        all("call", 0, 0, 0, NONE, NONE, 0, 0, 2, 2, NONE, 0, 0);
        sentence("a TRY: TAKEN BACK");
        make("station", 5, 100, 2);
        make("tower");
        make("order", 0, 0, TAKE, 6, 0);
        make("second", 1);
        make("cancel", 0);
        all("call", 0, 0, 0, NONE, NONE, 0, 0, 1, 3, NONE, NONE, 0);
        sentence("its answer: 0 is one");
        make("station", 0, 100, 2);
        make("tower");
        make("order", 0, 0, READ, 0, 0);
        make("second", 2);
        due(0, "call", 0, 8);
    }

    private static void guards() {
        sentence("a CALL of a GUARD has no STATION; numbers in the order in which CALLS BEGIN");
        works(2, JOIN, 0, 0, 0, 0);
        make("guard", DEADLINE, 9, 0, 0, 0);
        tower(1, 0);
        make("order", 0, 0, TAKE, 1, 0);
        make("order", 1, 0, TAKE, 2, 0);
        calls(0, 0, 0, 0, 1, 1, 1);
        calls(1, 0, 0, 1, 0, 1, 2);
        calls(2, 0, NONE, 0, NONE, 2, 3);
        calls(3, 0, 0, NONE, 1, 0, NONE);
        calls(4, 0, NONE, 0, NONE, NONE, 0);
        make("second", 2);
        calls(6, 0, 2, 2, 2, 2, 2);
        calls(7, 0, 1, 1, 1, 1, 1);
        calls(8, 0, 1, 1, 2, 2, 2);
        calls(9, 0, NONE, NONE, NONE, NONE, NONE);
        sentence("one that is refused ENDS at once, and BEGINS none");
        works(2, LIMIT, 1, 1, 0, 0);
        makeAll(2, "order", 0, 0, READ, 0, 0);
        all("call", 2, 1, 0, NONE, 0, NONE, 0, 0, 2, NONE, 0, 0);
        due(3, "count", 6);
    }

    private static void waits() {
        sentence("1 it WAITS, till it GOES IN");
        works(2, BULKHEAD, 1, 1, 0, 0);
        makeAll(2, "order", 0, 0, READ, 0, 0);
        due(0, "call", 0, 10);
        all("call", 2, 1, 0, NONE, 0, NONE, 0, NONE, 0, NONE, NONE, 1);
        make("second", 1);
        due(1, "call", 2, 10);
        make("second", 1);
        all("call", 2, 1, 0, NONE, 0, NONE, 0, NONE, 0, NONE, NONE, 0);
        all("call", 3, 1, 1, 2, NONE, 0, 2, NONE, 0, NONE, NONE, 0);
        sentence("UNDER WAY, else 0: one that waited and was TAKEN BACK");
        works(2, BULKHEAD, 1, 1, 0, 0);
        makeAll(2, "order", 0, 0, READ, 0, 0);
        make("cancel", 1);
        all("call", 2, 1, 0, NONE, 0, NONE, 0, 0, 3, NONE, NONE, 0);
    }

    private static void pauses() {
        sentence("2 it PAUSES, till the next one BEGINS");
        works(1, RETRY, 3, 2, 0, ANY);
        make("fault", 0, READ, 1, 1, LINE);
        make("order", 0, 0, READ, 0, 0);
        due(0, "call", 0, 10);
        make("second", 1);
        due(2, "call", 0, 10);
        make("second", 1);
        all("call", 0, 0, 0, NONE, 0, NONE, 0, NONE, 0, NONE, NONE, 2);
        make("second", 1);
        due(0, "call", 0, 10);
        all("call", 2, 0, 1, 0, NONE, 0, 3, NONE, 0, NONE, NONE, 0);
        make("second", 1);
        all("call", 0, 0, 0, NONE, 0, NONE, 0, 4, 1, 50, NONE, 0);
        sentence("2 it PAUSES again, if the next one is refused in the second in which it BEGINS");
        make("station", 50, 100, 9);
        make("guard", RETRY, 3, 1, 0, CROWDED);
        make("guard", BULKHEAD, 1, 0, 0, 0);
        tower(0, 1);
        makeAll(2, "order", 0, 0, READ, 0, 0);
        due(2, "call", 3, 10);
        make("second", 1);
        due(6, "count", 6);
        due(2, "call", 3, 10);
        make("second", 1);
        all("call", 3, 1, 0, NONE, 0, NONE, 0, 2, 2, NONE, 2, 0);
        sentence("UNDER WAY, else 0: one that paused and was TAKEN BACK");
        works(1, RETRY, 3, 2, 0, ANY);
        make("fault", 0, READ, 1, 1, LINE);
        make("order", 0, 0, READ, 0, 0);
        make("second", 1);
        make("cancel", 0);
        due(0, "call", 0, 10);
    }

    private static void joined() {
        sentence("3 it is JOINED, till that ENDS");
        works(2, JOIN, 0, 0, 0, 0);
        makeAll(2, "order", 0, 0, READ, 0, 0);
        due(0, "call", 0, 10);
        all("call", 2, 1, 0, NONE, 0, NONE, 0, NONE, 0, NONE, NONE, 3);
        make("second", 2);
        all("call", 2, 1, 0, NONE, 0, NONE, 0, 2, 1, 50, NONE, 0);
        sentence("UNDER WAY, else 0: one that is GONE, one that was TAKEN BACK");
        works(2, JOIN, 0, 0, 0, 0);
        makeAll(3, "order", 0, 0, READ, 0, 0);
        make("cancel", 1);
        due(0, "call", 2, 10);
        make("cancel", 0);
        all("call", 3, 2, 0, NONE, 0, NONE, 0, 0, 2, NONE, 0, 0);
    }

    private static void deadline() {
        sentence("DEADLINE: ENDS ALIKE, GOOD or not, ahead of its second");
        works(1, DEADLINE, 5, 0, 0, 0);
        make("order", 0, 0, TAKE, 3, 0);
        make("order", 0, 0, TAKE, 51, 0);
        due(2, "second", 1);
        all("call", 0, 0, 0, NONE, 0, NONE, 0, 1, 1, 3, NONE, 0);
        all("call", 2, 1, 0, NONE, 0, NONE, 0, 1, 2, NONE, 0, 0);
        make("second", 9);
        due(1, "count", 7);
        sentence("DEADLINE: all within is TAKEN BACK, then it ENDS with LATE");
        works(9, DEADLINE, 2, 0, 0, 0);
        make("guard", RETRY, 2, 1, 0, ANY);
        make("guard", HEDGE, 1, 0, 0, 0);
        tower(0, 1, 2);
        make("order", 1, 0, READ, 0, 0);
        due(1, "second", 2);
        calls(7, 0, 2, 3, 3, 3, 3);
        calls(6, 0, 2, 2, 2, 2, 2);
        calls(9, 0, 0, NONE, NONE, NONE, NONE);
        sentence("DEADLINE in a RETRY: each one is due from its own beginning");
        make("station", 50, 100, 9);
        make("guard", RETRY, 2, 3, 0, LATE);
        make("guard", DEADLINE, 2, 0, 0, 0);
        tower(0, 1);
        make("order", 0, 0, READ, 0, 0);
        due(1, "second", 7);
        calls(5, 1, 0, 0, 5, 5);
        calls(6, 1, 2, 2, 7, 7);
        calls(7, 1, 2, 3, 2, 3);
        due(1, "failure", 0, 5);
        sentence("DEADLINE: not LATE, if it is UNDER WAY no more by what came of that");
        make("station", 50, 100, 9);
        make("guard", HEDGE, 1, 0, 0, 0);
        make("guard", FALLBACK, 0, 77, 0, GONE);
        make("guard", DEADLINE, 3, 0, 0, 0);
        make("guard", JOIN, 0, 0, 0, 0);
        tower(0, 1, 2, 3);
        make("order", 0, 0, READ, 0, 0);
        due(1, "second", 3);
        order(0, 3, 77, NONE, 0, 3);
        due(1, "count", 7);
        calls(7, 0, 1, 3, 3, 3, 3, 1, 2, 2);
    }

    private static void retry() {
        sentence("RETRY: GOOD, the first: ALIKE, no other");
        works(1, RETRY, 2, 1, 0, ANY);
        make("order", 0, 0, READ, 0, 0);
        due(1, "second", 1);
        make("second", 9);
        due(2, "count", 6);
        sentence("RETRY: not NAMED: ALIKE, no other");
        works(1, RETRY, 2, 1, 0, LINE);
        make("order", 0, 0, TAKE, 51, 0);
        due(1, "second", 1);
        due(2, "outcome", 0);
        make("second", 9);
        due(2, "count", 6);
        sentence("RETRY: it was the a-th: ALIKE; the one before PAUSES");
        works(1, RETRY, 3, 1, 0, ANY);
        make("order", 0, 0, TAKE, 51, 0);
        make("second", 3);
        due(2, "call", 0, 10);
        due(0, "outcome", 0);
        due(1, "second", 2);
        due(4, "count", 6);
        sentence("RETRY: what is refused at once PAUSES at once, and again");
        make("station", 50, 100, 9);
        make("guard", RETRY, 3, 1, 1, CROWDED);
        make("guard", BULKHEAD, 1, 0, 0, 0);
        tower(0, 1);
        makeAll(2, "order", 0, 0, READ, 0, 0);
        due(2, "call", 3, 10);
        due(0, "second", 2);
        due(1, "second", 1);
        calls(5, 4, 0, 1, 3);
        order(1, 2, NONE, 2, 0, 3);
    }

    private static void hedge() {
        sentence("HEDGE: the first is GOOD ahead of the second one: no second");
        works(1, HEDGE, 2, 0, 0, 0);
        make("order", 0, 0, READ, 0, 0);
        due(1, "second", 1);
        order(0, 1, 50, NONE, 0, 1);
        make("second", 9);
        due(2, "count", 6);
        sentence("HEDGE: the first fails ahead of the second one: ALIKE, no second");
        works(1, HEDGE, 2, 0, 0, 0);
        make("order", 0, 0, TAKE, 51, 0);
        due(1, "second", 1);
        order(0, 2, NONE, 0, 0, 1);
        calls(9, 0, 0, 0);
        make("second", 9);
        due(2, "count", 6);
        sentence("HEDGE: the first is GOOD: the second is TAKEN BACK");
        works(3, HEDGE, 2, 0, 0, 0);
        make("order", 0, 0, TAKE, 1, 0);
        due(1, "second", 3);
        calls(7, 0, 1, 1, 3);
        make("second", 9);
        due(49, "level", 0);
        sentence("HEDGE: the second is GOOD: the first is TAKEN BACK");
        works(1, HEDGE, 2, 0, 0, 0);
        make("slow", 0, TAKE, 0, 0, 9);
        make("order", 0, 0, TAKE, 1, 0);
        due(1, "second", 3);
        calls(7, 0, 1, 3, 1);
        calls(5, 0, 0, 0, 2);
        make("second", 9);
        due(49, "level", 0);
        sentence("HEDGE: the first fails, the second is UNDER WAY: nothing; then that is GOOD");
        works(2, HEDGE, 1, 0, 0, 0);
        make("fault", 0, TAKE, 2, 2, LINE);
        make("order", 0, 0, TAKE, 1, 0);
        due(0, "second", 2);
        calls(7, 0, 0, 2, 0);
        due(1, "second", 1);
        calls(7, 0, 1, 2, 1);
        sentence("HEDGE: the first fails, the second WAITS, which is UNDER WAY: nothing; then that is GOOD");
        make("station", 50, 100, 2);
        make("guard", HEDGE, 1, 0, 0, 0);
        make("guard", BULKHEAD, 1, 1, 0, 0);
        make("fault", 0, READ, 2, 2, LINE);
        tower(0, 1);
        make("order", 0, 0, READ, 0, 0);
        make("second", 1);
        due(1, "call", 3, 10);
        due(0, "second", 1);
        due(1, "second", 2);
        order(0, 1, 50, NONE, 0, 4);
        calls(7, 0, 1, 2, 2, 1, 1);
        sentence("HEDGE: the second fails, the first PAUSES, which is UNDER WAY: nothing; then that is GOOD");
        make("station", 50, 100, 2);
        make("guard", HEDGE, 1, 0, 0, 0);
        make("guard", RETRY, 2, 5, 0, NOISE);
        make("fault", 0, READ, 2, 2, NOISE);
        make("fault", 0, READ, 3, 3, SILENT);
        tower(0, 1);
        make("order", 0, 0, READ, 0, 0);
        make("second", 2);
        due(2, "call", 1, 10);
        due(0, "second", 1);
        calls(7, 0, 0, 0, 2, 2, 2);
        due(1, "second", 6);
        order(0, 1, 50, NONE, 0, 9);
        sentence("HEDGE: no third, however long it lasts");
        works(100, HEDGE, 1, 0, 0, 0);
        make("order", 0, 0, READ, 0, 0);
        make("second", 99);
        due(3, "count", 6);
        sentence("HEDGE: the first one that PAUSES or WAITS is UNDER WAY");
        make("station", 50, 100, 1);
        make("guard", HEDGE, 3, 0, 0, 0);
        make("guard", RETRY, 2, 9, 0, ANY);
        make("fault", 0, READ, 1, 1, LINE);
        tower(0, 1);
        make("order", 0, 0, READ, 0, 0);
        make("second", 3);
        due(5, "count", 6);
        due(1, "second", 1);
        calls(7, 0, 1, 3, 2, 1, 1);
        sentence("HEDGE: the second one is GOOD at once: the first is TAKEN BACK in that second");
        make("station", 50, 100, 1);
        make("guard", HEDGE, 2, 0, 0, 0);
        make("guard", MEMORY, 9, 0, 0, 0);
        make("slow", 0, READ, 0, 0, 9);
        tower(0, 1);
        tower(1);
        make("order", 0, 0, READ, 0, 0);
        make("second", 1);
        make("order", 1, 0, READ, 0, 0);
        due(2, "second", 1);
        calls(7, 0, 1, 3, 3, 1, 1, 1);
        due(6, "count", 6);
    }

    private static void fallback() {
        sentence("FALLBACK: GOOD: ALIKE, no TRY at the other STATION");
        make("station", 50, 100, 1);
        make("station", 60, 100, 2);
        make("guard", FALLBACK, 1, 1, 0, ANY);
        tower(0);
        make("order", 0, 0, READ, 0, 0);
        due(1, "second", 1);
        due(2, "count", 6);
        sentence("FALLBACK: not NAMED: ALIKE");
        make("station", 50, 100, 1);
        make("station", 60, 100, 2);
        make("guard", FALLBACK, 1, 1, 0, LINE);
        tower(0);
        make("order", 0, 0, TAKE, 51, 0);
        due(1, "second", 1);
        due(2, "count", 6);
        due(2, "outcome", 0);
        sentence("FALLBACK: the TRY at STATION b is of the next DEPTH, past all GUARDS within, with ACT, v and KEY of the ORDER");
        make("station", 50, 100, 1);
        make("station", 60, 100, 2);
        make("guard", FALLBACK, 1, 1, 0, ANY);
        make("guard", LIMIT, 1, 1, 0, 0);
        make("guard", JOIN, 0, 0, 0, 0);
        tower(0, 1, 2);
        make("order", 0, 0, TAKE, 51, 8);
        make("second", 1);
        all("call", 4, 0, 1, 0, NONE, 1, 1, NONE, 0, NONE, NONE, 0);
        due(1, "second", 2);
        due(9, "level", 1);
        all("effect", 0, 1, 0, 8, -51, 3);
        sentence("FALLBACK: its own TRY failing, though NAMED, is not tried again");
        make("station", 50, 100, 1);
        make("guard", FALLBACK, 1, 0, 0, ANY);
        tower(0);
        make("order", 0, 0, TAKE, 51, 0);
        due(0, "second", 1);
        due(1, "second", 1);
        due(3, "count", 6);
        calls(9, 0, 1, 0, 1);
        sentence("FALLBACK: refused at once within: the TRY BEGINS at once");
        make("station", 50, 100, 1);
        make("guard", FALLBACK, 1, 0, 0, SHORT);
        make("guard", LIMIT, 1, 1, 0, 0);
        tower(0, 1);
        makeAll(2, "order", 0, 0, READ, 0, 0);
        all("call", 5, 1, 1, 3, NONE, 0, 0, NONE, 0, NONE, NONE, 0);
        due(2, "second", 1);
        due(1, "outcome", 0);
        due(3, "outcome", 1);
    }

    private static void translator() {
        sentence("TRANSLATOR: GOOD: ALIKE");
        works(1, TRANSLATOR, 0, WORD, 0, ANY);
        make("order", 0, 0, READ, 0, 0);
        make("second", 1);
        due(1, "outcome", 0);
        due(0, "count", 7);
        sentence("TRANSLATOR: not NAMED: ALIKE");
        works(1, TRANSLATOR, 0, WORD, 0, LINE);
        make("order", 0, 0, TAKE, 51, 0);
        make("second", 1);
        calls(9, 0, 0, 0);
        due(1, "count", 7);
        sentence("TRANSLATOR: NAMED: its own FAILURE, though of the same KIND");
        works(1, TRANSLATOR, 0, DRY, 0, DRY);
        make("order", 0, 0, TAKE, 51, 0);
        make("second", 1);
        calls(9, 0, 1, 0);
        all("failure", 1, DRY, 1, 0, NONE, 0, NONE);
        sentence("TRANSLATOR: what it tells is NAMED farther out, what it was told is not");
        make("station", 50, 100, 1);
        make("guard", RETRY, 2, 1, 0, PLAN);
        make("guard", TRANSLATOR, 0, WORD, 0, DRY);
        make("guard", RETRY, 2, 1, 0, DRY);
        tower(0, 1);
        tower(2, 1);
        make("order", 0, 0, TAKE, 51, 0);
        make("order", 1, 0, TAKE, 51, 0);
        due(1, "second", 1);
        due(2, "call", 0, 10);
        due(2, "outcome", 1);
    }
}
