/** Promise 24, tokens: the TOKENS of a LIMIT. NONE. And the LIMIT of parts 3 and 4. */
public final class Promise24Test extends Told {
    public static void main(String[] args) {
        promise("24, tokens");
        noSuchNumber();
        taken();
        more();
        oneForAll();
        done();
    }

    private static void works(int a, int b) {
        make("station", 50, 100, 5);
        make("guard", LIMIT, a, b, 0, 0);
        tower(0);
    }

    private static void reads(int howMany) {
        makeAll(howMany, "order", 0, 0, READ, 0, 0);
    }

    private static void noSuchNumber() {
        sentence("NONE: no such GUARD, another GUARD");
        make("guard", FUSE, 5, 5, 0, 0);
        make("guard", LIMIT, 5, 5, 0, 0);
        make("guard", BULKHEAD, 5, 5, 0, 0);
        int[] guards = {-1, 0, 2, 3, MIN, MAX};
        for (int guard : guards) {
            due(NONE, "tokens", guard);
        }
        due(5, "tokens", 1);
    }

    private static void taken() {
        sentence("a TOKENS at first; if there is one it is taken: the last one, too");
        works(3, 1);
        due(3, "tokens", 0);
        reads(2);
        due(1, "tokens", 0);
        reads(1);
        due(0, "tokens", 0);
        due(0, "outcome", 2);
        sentence("else refused, SHORT; none is below 0");
        works(3, 1);
        reads(4);
        due(0, "tokens", 0);
        order(3, 2, NONE, 0, 0, 0);
        all("failure", 0, SHORT, 0, 0, NONE, NONE, NONE);
        reads(1);
        due(0, "tokens", 0);
        sentence("it is not given back: by GOOD, by a FAILURE, TAKEN BACK");
        make("station", 50, 100, 1);
        make("guard", LIMIT, 5, 1, 0, 0);
        tower(0);
        make("order", 0, 0, READ, 0, 0);
        make("order", 0, 0, TAKE, 51, 0);
        make("order", 0, 0, READ, 0, 0);
        make("cancel", 2);
        due(2, "tokens", 0);
        make("second", 1);
        due(3, "tokens", 0);
    }

    private static void more() {
        sentence("b more in each SECOND, a at most: a - 1, a, not a + 1");
        works(5, 2);
        reads(5);
        due(0, "tokens", 0);
        make("second", 1);
        due(2, "tokens", 0);
        make("second", 1);
        due(4, "tokens", 0);
        make("second", 1);
        due(5, "tokens", 0);
        make("second", 1);
        due(5, "tokens", 0);
        sentence("b above a: a at most");
        works(2, 100);
        due(2, "tokens", 0);
        make("second", 1);
        due(2, "tokens", 0);
        reads(2);
        make("second", 1);
        due(2, "tokens", 0);
        sentence("a SECOND of many gives b each");
        works(100, 3);
        reads(40);
        due(60, "tokens", 0);
        make("second", 13);
        due(99, "tokens", 0);
        make("second", 1);
        due(100, "tokens", 0);
        sentence("one that was SHORT is not, when there are TOKENS again");
        works(1, 1);
        reads(2);
        due(2, "outcome", 1);
        make("second", 1);
        reads(1);
        due(0, "outcome", 2);
        due(0, "tokens", 0);
    }

    private static void oneForAll() {
        sentence("what it has is one for all its towers");
        works(2, 1);
        make("guard", JOIN, 0, 0, 0, 0);
        tower(1, 0);
        make("order", 0, 0, READ, 0, 0);
        make("order", 1, 0, READ, 0, 0);
        due(0, "tokens", 0);
        sentence("two LIMITS are apart, also in what a SECOND gives");
        works(2, 1);
        make("guard", LIMIT, 9, 4, 0, 0);
        tower(1);
        reads(2);
        makeAll(9, "order", 1, 0, READ, 0, 0);
        make("second", 1);
        due(1, "tokens", 0);
        due(4, "tokens", 1);
        sentence("each CALL of a HEDGE or RETRY around takes one");
        works(5, 1);
        make("guard", HEDGE, 1, 0, 0, 0);
        tower(1, 0);
        make("order", 1, 0, READ, 0, 0);
        due(4, "tokens", 0);
        make("second", 1);
        due(4, "tokens", 0);
        due(2, "count", 10);
    }
}
