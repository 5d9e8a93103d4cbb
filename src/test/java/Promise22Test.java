/** Promise 22, bulkhead: how many are AT WORK, wait, were refused. NONE (another GUARD, too). And the BULKHEAD of part 3. */
public final class Promise22Test extends Told {
    public static void main(String[] args) {
        promise("22, bulkhead");
        noSuchNumber();
        goesInWaitsRefused();
        noneWaits();
        ends();
        takenBack();
        oneForAll();
        done();
    }

    private static void works(int a, int b, int delay) {
        make("station", 50, 100, delay);
        make("guard", BULKHEAD, a, b, 0, 0);
        tower(0);
    }

    private static void reads(int howMany) {
        makeAll(howMany, "order", 0, 0, READ, 0, 0);
    }

    private static void noSuchNumber() {
        sentence("NONE: no such GUARD, another GUARD, no such what");
        make("guard", LIMIT, 5, 5, 0, 0);
        make("guard", BULKHEAD, 5, 5, 0, 0);
        make("guard", FUSE, 5, 5, 0, 0);
        int[] guards = {-1, 0, 2, 3, MIN, MAX};
        for (int guard : guards) {
            for (int what = 0; what < 3; what++) {
                due(NONE, "bulkhead", guard, what);
            }
        }
        int[] whats = {-1, 3, MIN, MAX};
        for (int what : whats) {
            due(NONE, "bulkhead", 1, what);
        }
        sentence("none at first");
        works(1, 0, 1);
        all("bulkhead", 0, 0, 0, 0);
    }

    private static void goesInWaitsRefused() {
        sentence("AT WORK, if less than a are: the a-th is, the next one is not");
        works(2, 2, 5);
        reads(2);
        all("bulkhead", 0, 2, 0, 0);
        reads(1);
        all("bulkhead", 0, 2, 1, 0);
        sentence("if less than b wait: the b-th does, the next one is refused");
        works(2, 2, 5);
        reads(4);
        all("bulkhead", 0, 2, 2, 0);
        due(0, "outcome", 3);
        reads(1);
        all("bulkhead", 0, 2, 2, 1);
        order(4, 2, NONE, 0, 0, 0);
        reads(1);
        all("bulkhead", 0, 2, 2, 2);
        sentence("b 0: none waits");
        works(1, 0, 5);
        reads(3);
        all("bulkhead", 0, 1, 0, 2);
        sentence("room again behind a SECOND in which one ENDED");
        works(1, 0, 1);
        reads(2);
        make("second", 1);
        reads(1);
        all("bulkhead", 0, 1, 0, 1);
    }

    private static void noneWaits() {
        sentence("and none waits: though less than a are AT WORK it waits behind those");
        works(2, 3, 5);
        reads(3);
        make("cancel", 0);
        all("bulkhead", 0, 1, 1, 0);
        reads(1);
        all("bulkhead", 0, 1, 2, 0);
        make("second", 1);
        all("bulkhead", 0, 2, 1, 0);
        due(5, "waiting", 0, 0);
        sentence("none waits any more: it GOES IN");
        works(2, 3, 5);
        reads(3);
        make("cancel", 0);
        make("cancel", 2);
        reads(1);
        all("bulkhead", 0, 2, 0, 0);
        sentence("less than a AT WORK, but b wait: refused");
        works(1, 1, 5);
        reads(2);
        make("cancel", 0);
        all("bulkhead", 0, 0, 1, 0);
        reads(1);
        all("bulkhead", 0, 0, 1, 1);
    }

    private static void ends() {
        sentence("ENDS: it is AT WORK no more, GOOD or with a FAILURE");
        works(2, 0, 1);
        make("order", 0, 0, READ, 0, 0);
        make("order", 0, 0, TAKE, 51, 0);
        due(2, "second", 1);
        all("bulkhead", 0, 0, 0, 0);
        order(0, 1, 50, NONE, 0, 1);
        order(1, 2, NONE, 0, 0, 1);
        sentence("one that is refused within is AT WORK no more at once");
        works(2, 0, 1);
        make("guard", LIMIT, 1, 1, 0, 0);
        tower(0, 1);
        makeAll(3, "order", 1, 0, READ, 0, 0);
        all("bulkhead", 0, 1, 0, 0);
        due(2, "count", 7);
        sentence("those that waited and are refused within do not count as refused");
        works(1, 1, 1);
        make("guard", FUSE, 1, 9, 0, ANY);
        make("fault", 0, READ, 1, 1, LINE);
        tower(0, 1);
        makeAll(2, "order", 1, 0, READ, 0, 0);
        due(2, "second", 1);
        all("bulkhead", 0, 0, 0, 0);
    }

    private static void takenBack() {
        sentence("TAKEN BACK: AT WORK no more; who waits GOES IN in the next SECOND");
        works(1, 2, 9);
        reads(3);
        make("cancel", 0);
        all("bulkhead", 0, 0, 2, 0);
        make("second", 1);
        all("bulkhead", 0, 1, 1, 0);
        all("call", 4, 1, 1, 2, NONE, 0, 1, NONE, 0, NONE, NONE, 0);
        sentence("TAKEN BACK: WAITING no more");
        works(1, 2, 9);
        reads(3);
        make("cancel", 1);
        all("bulkhead", 0, 1, 1, 0);
        reads(1);
        all("bulkhead", 0, 1, 2, 0);
        sentence("TAKEN BACK: one that waited and went in is AT WORK no more");
        works(1, 1, 2);
        reads(2);
        make("second", 2);
        all("bulkhead", 0, 1, 0, 0);
        make("cancel", 1);
        all("bulkhead", 0, 0, 0, 0);
        sentence("TAKEN BACK by a DEADLINE: AT WORK and WAITING in one SECOND");
        works(1, 2, 9);
        make("guard", DEADLINE, 2, 0, 0, 0);
        tower(1, 0);
        makeAll(3, "order", 1, 0, READ, 0, 0);
        due(3, "second", 2);
        all("bulkhead", 0, 0, 0, 0);
    }

    private static void oneForAll() {
        sentence("what it has is one for all its towers");
        works(1, 1, 5);
        make("guard", JOIN, 0, 0, 0, 0);
        tower(1, 0);
        make("order", 0, 0, READ, 0, 0);
        make("order", 1, 0, TAKE, 1, 0);
        make("order", 1, 0, TAKE, 2, 0);
        all("bulkhead", 0, 1, 1, 1);
        sentence("two BULKHEADS are apart");
        works(1, 1, 5);
        make("guard", BULKHEAD, 1, 1, 0, 0);
        tower(1);
        reads(3);
        make("order", 1, 0, READ, 0, 0);
        all("bulkhead", 0, 1, 1, 1);
        all("bulkhead", 1, 1, 0, 0);
    }
}
