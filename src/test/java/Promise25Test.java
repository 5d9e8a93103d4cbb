/** Promise 25, kept: what a MEMORY KEPT of a STATION: the answer, the second. NONE. And the MEMORY of part 3. */
public final class Promise25Test extends Told {
    public static void main(String[] args) {
        promise("25, kept");
        noSuchNumber();
        keeps();
        age();
        otherActs();
        oneForAStation();
        whatIsKept();
        done();
    }

    private static void works(int a) {
        make("station", 50, 100, 1);
        make("station", 60, 100, 1);
        make("guard", MEMORY, a, 0, 0, 0);
        tower(0);
    }

    private static void kept(int station, int answer, int second) {
        due(answer, "kept", 0, station, 0);
        due(second, "kept", 0, station, 1);
    }

    private static void read(int station) {
        make("order", 0, station, READ, 0, 0);
        make("second", 1);
    }

    private static void noSuchNumber() {
        sentence("NONE: no such GUARD, another GUARD, no such STATION, no such what");
        works(9);
        make("guard", JOIN, 0, 0, 0, 0);
        read(0);
        int[] guards = {-1, 1, 2, MIN, MAX};
        for (int guard : guards) {
            due(NONE, "kept", guard, 0, 0);
        }
        int[] stations = {-1, 2, 8, MIN, MAX};
        for (int station : stations) {
            due(NONE, "kept", 0, station, 0);
        }
        int[] whats = {-1, 2, MIN, MAX};
        for (int what : whats) {
            due(NONE, "kept", 0, 0, what);
        }
        kept(0, 50, 1);
        sentence("NONE: nothing is KEPT of it");
        works(9);
        kept(0, NONE, NONE);
        make("order", 0, 0, READ, 0, 0);
        kept(0, NONE, NONE);
        make("second", 1);
        kept(0, 50, 1);
        kept(1, NONE, NONE);
        sentence("STATION 7 has a place, too");
        makeAll(7, "station", 50, 100, 1);
        make("station", 70, 100, 1);
        make("guard", MEMORY, 9, 0, 0, 0);
        tower(0);
        read(7);
        kept(7, 70, 1);
        due(NONE, "kept", 0, 8, 0);
    }

    private static void keeps() {
        sentence("its answer is KEPT, at TIME; an answer of 0, too");
        make("station", 0, 100, 3);
        make("guard", MEMORY, 9, 0, 0, 0);
        tower(0);
        make("order", 0, 0, READ, 0, 0);
        make("second", 2);
        kept(0, NONE, NONE);
        make("second", 1);
        kept(0, 0, 3);
        make("order", 0, 0, READ, 0, 0);
        order(1, 1, 0, NONE, 3, 3);
        sentence("GOOD at once: it BEGINS none, and is not KEPT anew");
        works(9);
        read(0);
        make("second", 4);
        make("order", 0, 0, READ, 0, 0);
        order(1, 1, 50, NONE, 5, 5);
        due(3, "count", 6);
        kept(0, 50, 1);
    }

    private static void age() {
        sentence("TIME - t at most a: at a GOOD at once, at a + 1 it GOES IN");
        works(3);
        read(0);
        make("second", 3);
        make("order", 0, 0, READ, 0, 0);
        due(1, "outcome", 1);
        make("second", 1);
        make("order", 0, 0, READ, 0, 0);
        due(0, "outcome", 2);
        kept(0, 50, 1);
        sentence("TIME - t of 0: in the second in which it was KEPT");
        works(1);
        read(0);
        make("order", 0, 0, READ, 0, 0);
        due(1, "outcome", 1);
        sentence("t is the second in which it was KEPT: few CALLS and a late second");
        works(5);
        make("second", 50);
        read(0);
        make("second", 5);
        make("order", 0, 0, READ, 0, 0);
        due(1, "outcome", 1);
        sentence("t is the second in which it was KEPT: many CALLS and an early second");
        works(5);
        makeAll(20, "order", 0, 1, TAKE, 1, 0);
        read(0);
        make("second", 6);
        make("order", 0, 0, READ, 0, 0);
        due(0, "outcome", 21);
        sentence("the old one stays till there is another one in its place");
        works(1);
        read(0);
        make("order", 0, 0, TAKE, 7, 0);
        make("second", 5);
        kept(0, 50, 1);
        read(0);
        kept(0, 43, 7);
        sentence("one that went in before and ENDS later is KEPT in place of it, though the other one is young");
        works(9);
        make("slow", 0, READ, 0, 0, 3);
        make("order", 0, 0, READ, 0, 0);
        make("second", 1);
        make("order", 0, 0, READ, 0, 0);
        make("second", 1);
        kept(0, 50, 2);
        make("second", 2);
        kept(0, 50, 4);
    }

    private static void otherActs() {
        sentence("of ACTS but READ: GOES IN, ALIKE; nothing is KEPT, nothing remembered");
        works(99);
        make("order", 0, 0, TAKE, 5, 0);
        make("order", 0, 0, GIVE, 5, 0);
        due(2, "second", 1);
        kept(0, NONE, NONE);
        read(0);
        make("order", 0, 0, TAKE, 5, 0);
        make("order", 0, 0, GIVE, 5, 0);
        due(0, "outcome", 3);
        due(0, "outcome", 4);
        make("order", 0, 0, TAKE, 100, 0);
        due(3, "second", 1);
        due(2, "outcome", 5);
        kept(0, 50, 2);
        sentence("TAKE 0 and GIVE 0 are no READ");
        works(99);
        make("order", 0, 0, TAKE, 0, 0);
        make("order", 0, 0, GIVE, 0, 0);
        make("second", 1);
        kept(0, NONE, NONE);
        read(0);
        make("order", 0, 0, TAKE, 0, 0);
        make("order", 0, 0, GIVE, 0, 0);
        due(0, "outcome", 3);
        due(0, "outcome", 4);
    }

    private static void oneForAStation() {
        sentence("one for a STATION");
        works(9);
        make("order", 0, 0, READ, 0, 0);
        read(1);
        kept(0, 50, 1);
        kept(1, 60, 1);
        make("order", 0, 1, READ, 0, 0);
        due(60, "of", 2, 0);
        sentence("what it has is one for all its towers");
        works(9);
        make("guard", LIMIT, 1, 1, 0, 0);
        tower(0, 1);
        read(0);
        make("order", 1, 0, READ, 0, 0);
        due(1, "outcome", 1);
        due(1, "tokens", 1);
        sentence("two MEMORIES are apart");
        works(9);
        make("guard", MEMORY, 9, 0, 0, 0);
        tower(1);
        read(0);
        due(NONE, "kept", 1, 0, 0);
        make("order", 1, 0, READ, 0, 0);
        due(0, "outcome", 1);
    }

    private static void whatIsKept() {
        sentence("a FAILURE is not KEPT, and the one before stays");
        works(1);
        make("fault", 0, READ, 3, 9, LINE);
        read(0);
        make("second", 2);
        read(0);
        due(2, "outcome", 1);
        kept(0, 50, 1);
        due(1, "count", 7);
        sentence("one that was TAKEN BACK is not KEPT");
        works(9);
        make("order", 0, 0, READ, 0, 0);
        make("cancel", 0);
        make("second", 1);
        kept(0, NONE, NONE);
        sentence("an answer by a FALLBACK is KEPT, of the STATION of the ORDER, not of that which answered");
        works(9);
        make("guard", FALLBACK, 1, 1, 0, ANY);
        tower(0, 1);
        make("fault", 0, READ, 1, 1, LINE);
        make("order", 1, 0, READ, 0, 0);
        make("second", 2);
        kept(0, 60, 2);
        kept(1, NONE, NONE);
        make("order", 0, 0, READ, 0, 0);
        order(1, 3, 60, NONE, 2, 2);
        sentence("a FALLBACK around is not KEPT");
        works(9);
        make("guard", FALLBACK, 0, 7, 0, ANY);
        tower(1, 0);
        make("fault", 0, READ, 1, 1, LINE);
        make("order", 1, 0, READ, 0, 0);
        make("second", 1);
        due(3, "outcome", 0);
        kept(0, NONE, NONE);
    }
}
