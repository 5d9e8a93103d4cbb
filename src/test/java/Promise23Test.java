/** Promise 23, waiting: the CALL that is the i-th to wait at a BULKHEAD, the longest first, from 0 on. NONE. */
public final class Promise23Test extends Told {
    public static void main(String[] args) {
        promise("23, waiting");
        noSuchNumber();
        longestFirst();
        severalTowers();
        done();
    }

    private static void works(int a, int b) {
        make("station", 50, 100, 5);
        make("guard", BULKHEAD, a, b, 0, 0);
        tower(0);
    }

    private static void reads(int howMany) {
        makeAll(howMany, "order", 0, 0, READ, 0, 0);
    }

    private static void noSuchNumber() {
        sentence("NONE: none waits");
        works(1, 3);
        due(NONE, "waiting", 0, 0);
        reads(1);
        due(NONE, "waiting", 0, 0);
        sentence("NONE: no such i");
        works(1, 3);
        reads(3);
        due(2, "waiting", 0, 0);
        due(3, "waiting", 0, 1);
        int[] wrong = {-1, 2, MIN, MAX};
        for (int i : wrong) {
            due(NONE, "waiting", 0, i);
        }
        sentence("NONE: no such GUARD, another GUARD");
        works(1, 3);
        make("guard", LIMIT, 1, 1, 0, 0);
        reads(3);
        int[] guards = {-1, 1, 2, MIN, MAX};
        for (int guard : guards) {
            due(NONE, "waiting", guard, 0);
        }
        sentence("the tenth, and no eleventh");
        works(1, 10);
        reads(12);
        due(11, "waiting", 0, 9);
        due(NONE, "waiting", 0, 10);
    }

    private static void longestFirst() {
        sentence("the longest first, also when one in the middle is TAKEN BACK");
        works(1, 5);
        reads(4);
        for (int i = 0; i < 3; i++) {
            due(2 + i, "waiting", 0, i);
        }
        make("cancel", 2);
        due(2, "waiting", 0, 0);
        due(4, "waiting", 0, 1);
        due(NONE, "waiting", 0, 2);
        reads(1);
        due(5, "waiting", 0, 2);
        sentence("the longest first, also when the first or the last is TAKEN BACK");
        works(1, 5);
        reads(4);
        make("cancel", 1);
        due(3, "waiting", 0, 0);
        make("cancel", 3);
        due(3, "waiting", 0, 0);
        due(NONE, "waiting", 0, 1);
        sentence("the one that waits longest GOES IN, the others come nearer");
        works(1, 5);
        reads(3);
        make("second", 5);
        due(2, "call", 4, 2);
        due(3, "waiting", 0, 0);
        due(NONE, "waiting", 0, 1);
        make("second", 5);
        due(3, "call", 5, 2);
        due(NONE, "waiting", 0, 0);
        sentence("one that is refused does not wait");
        works(1, 1);
        reads(3);
        due(2, "waiting", 0, 0);
        due(NONE, "waiting", 0, 1);
    }

    private static void severalTowers() {
        sentence("CALLS of several towers and DEPTHS wait in one row");
        works(1, 5);
        make("guard", DEADLINE, 9, 0, 0, 0);
        tower(1, 0);
        make("order", 1, 0, READ, 0, 0);
        make("order", 1, 0, READ, 0, 0);
        make("order", 0, 0, READ, 0, 0);
        due(4, "waiting", 0, 0);
        due(5, "waiting", 0, 1);
        sentence("one that comes again by a RETRY waits behind the others");
        make("station", 50, 100, 5);
        make("guard", BULKHEAD, 1, 5, 0, 0);
        make("guard", RETRY, 2, 1, 0, ANY);
        make("fault", 0, READ, 5, 5, LINE);
        tower(1, 0);
        makeAll(3, "order", 0, 0, READ, 0, 0);
        make("second", 5);
        due(6, "waiting", 0, 0);
        due(NONE, "waiting", 0, 1);
        make("second", 1);
        due(6, "waiting", 0, 0);
        due(8, "waiting", 0, 1);
    }
}
