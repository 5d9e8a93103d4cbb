/** Promise 26, joined: the i-th CALL, by number, that is JOINED to a CALL (UNDER WAY). NONE. And the JOIN of part 3. */
public final class Promise26Test extends Told {
    public static void main(String[] args) {
        promise("26, joined");
        noSuchNumber();
        byNumber();
        whatIsAlike();
        leads();
        endsAlike();
        behindAllThatComesOfIt();
        takenBack();
        done();
    }

    private static void works(int delay) {
        make("station", 50, 100, delay);
        make("station", 60, 100, delay);
        make("guard", JOIN, 0, 0, 0, 0);
        tower(0);
    }

    private static void reads(int howMany) {
        makeAll(howMany, "order", 0, 0, READ, 0, 0);
    }

    private static void noSuchNumber() {
        sentence("NONE: no such CALL, no such i");
        works(5);
        reads(3);
        due(2, "joined", 0, 0);
        due(3, "joined", 0, 1);
        int[] calls = {-1, 4, MIN, MAX};
        for (int call : calls) {
            due(NONE, "joined", call, 0);
        }
        int[] wrong = {-1, 2, MIN, MAX};
        for (int i : wrong) {
            due(NONE, "joined", 0, i);
        }
        sentence("NONE: none is JOINED to it: a TRY, one that is JOINED itself, one that LEADS none");
        works(5);
        reads(2);
        due(NONE, "joined", 1, 0);
        due(NONE, "joined", 2, 0);
        make("order", 0, 0, TAKE, 1, 0);
        due(NONE, "joined", 3, 0);
        sentence("NONE: no CALL is there");
        due(NONE, "joined", 0, 0);
        sentence("all the other 59");
        works(5);
        reads(60);
        due(2, "joined", 0, 0);
        due(60, "joined", 0, 58);
        due(NONE, "joined", 0, 59);
        due(60, "second", 5);
    }

    private static void byNumber() {
        sentence("by number, also when one in the middle is TAKEN BACK");
        works(5);
        reads(4);
        make("cancel", 2);
        due(2, "joined", 0, 0);
        due(4, "joined", 0, 1);
        due(NONE, "joined", 0, 2);
        reads(1);
        due(5, "joined", 0, 2);
        sentence("UNDER WAY: none when it ENDED");
        works(5);
        reads(2);
        due(2, "second", 5);
        due(NONE, "joined", 0, 0);
        sentence("by number, when many CALLS have ENDED before");
        works(2);
        make("tower");
        makeAll(9, "order", 1, 1, READ, 0, 0);
        make("second", 2);
        reads(2);
        make("order", 1, 1, READ, 0, 0);
        make("second", 1);
        reads(1);
        due(11, "joined", 9, 0);
        due(13, "joined", 9, 1);
        due(NONE, "joined", 9, 2);
        due(NONE, "joined", 13, 0);
        due(NONE, "joined", 14, 0);
        due(4, "second", 1);
        order(11, 1, 60, NONE, 2, 4);
        order(12, 1, 50, NONE, 3, 4);
        sentence("each has its own");
        works(5);
        reads(2);
        makeAll(2, "order", 0, 1, READ, 0, 0);
        due(2, "joined", 0, 0);
        due(NONE, "joined", 0, 1);
        due(5, "joined", 3, 0);
        due(NONE, "joined", 3, 1);
    }

    private static void whatIsAlike() {
        sentence("the same STATION, ACT, v: KEYS don't count");
        works(5);
        make("order", 0, 0, TAKE, 5, 1);
        make("order", 0, 0, TAKE, 5, 2);
        make("order", 0, 0, TAKE, 5, 0);
        due(2, "joined", 0, 0);
        due(3, "joined", 0, 1);
        due(3, "second", 5);
        due(45, "level", 0);
        due(1, "effect", 0, 2);
        due(1, "count", 8);
        sentence("another STATION LEADS");
        works(5);
        make("order", 0, 0, TAKE, 5, 0);
        make("order", 0, 1, TAKE, 5, 0);
        due(2, "count", 10);
        sentence("another STATION LEADS, the other way round");
        works(5);
        make("order", 0, 1, TAKE, 5, 0);
        make("order", 0, 0, TAKE, 5, 0);
        due(2, "count", 10);
        sentence("another ACT LEADS");
        works(5);
        make("order", 0, 0, TAKE, 5, 0);
        make("order", 0, 0, GIVE, 5, 0);
        due(2, "count", 10);
        sentence("another ACT LEADS, the other way round");
        works(5);
        make("order", 0, 0, GIVE, 5, 0);
        make("order", 0, 0, TAKE, 5, 0);
        due(2, "count", 10);
        sentence("READ, TAKE 0 and GIVE 0 are not alike");
        works(5);
        make("order", 0, 0, TAKE, 0, 0);
        make("order", 0, 0, READ, 0, 0);
        make("order", 0, 0, GIVE, 0, 0);
        due(3, "count", 10);
        sentence("another v LEADS");
        works(5);
        make("order", 0, 0, TAKE, 5, 0);
        make("order", 0, 0, TAKE, 6, 0);
        make("order", 0, 0, TAKE, 4, 0);
        due(3, "count", 10);
        sentence("another GUARD LEADS");
        works(5);
        make("guard", JOIN, 0, 0, 0, 0);
        tower(1);
        make("order", 0, 0, TAKE, 5, 0);
        make("order", 1, 0, TAKE, 5, 0);
        due(2, "count", 10);
        sentence("another tower with this GUARD is JOINED, at another DEPTH, too");
        works(5);
        make("guard", DEADLINE, 9, 0, 0, 0);
        tower(1, 0);
        make("order", 0, 0, TAKE, 5, 0);
        make("order", 1, 0, TAKE, 5, 0);
        due(3, "joined", 0, 0);
        sentence("an ORDER of a PLAN is JOINED, too");
        works(5);
        reads(1);
        make("plan", 0, 0, READ, 0, 1, 0, MOST);
        make("second", 1);
        due(2, "joined", 0, 0);
    }

    private static void leads() {
        sentence("one that ENDED does not LEAD: the next one does");
        works(2);
        reads(1);
        make("second", 2);
        reads(2);
        due(4, "joined", 2, 0);
        due(NONE, "joined", 0, 0);
        sentence("in the last second of the one that LEADS it is JOINED still, and ENDS with it");
        works(2);
        reads(1);
        make("second", 1);
        reads(1);
        due(2, "second", 1);
        order(1, 1, 50, NONE, 1, 2);
        sentence("one that was TAKEN BACK does not LEAD");
        works(5);
        reads(1);
        make("cancel", 0);
        reads(1);
        due(1, "count", 10);
        sentence("one that is JOINED does not LEAD: all are JOINED to the same one");
        works(5);
        reads(3);
        due(NONE, "joined", 2, 0);
        due(3, "joined", 0, 1);
        sentence("one that LEADS and WAITS within is UNDER WAY");
        make("station", 50, 100, 5);
        make("guard", JOIN, 0, 0, 0, 0);
        make("guard", BULKHEAD, 1, 5, 0, 0);
        tower(0, 1);
        tower(1);
        make("order", 1, 0, TAKE, 1, 0);
        makeAll(2, "order", 0, 0, READ, 0, 0);
        due(4, "joined", 2, 0);
        sentence("one of a HEDGE is JOINED to the other one of its own ORDER");
        make("station", 50, 100, 5);
        make("guard", HEDGE, 1, 0, 0, 0);
        make("guard", JOIN, 0, 0, 0, 0);
        tower(0, 1);
        make("order", 0, 0, READ, 0, 0);
        make("second", 1);
        due(3, "joined", 1, 0);
        due(1, "second", 4);
        calls(7, 0, 1, 1, 1, 3);
    }

    private static void endsAlike() {
        sentence("END ALIKE: the same answer, in the same second");
        works(5);
        make("order", 0, 0, TAKE, 5, 0);
        make("second", 3);
        make("order", 0, 0, TAKE, 5, 0);
        due(2, "second", 2);
        order(0, 1, 5, NONE, 0, 5);
        order(1, 1, 5, NONE, 3, 5);
        due(45, "level", 0);
        sentence("END ALIKE: the same FAILURE, no other one");
        works(5);
        makeAll(3, "order", 0, 0, TAKE, 51, 0);
        due(3, "second", 5);
        due(1, "count", 7);
        for (int i = 0; i < 3; i++) {
            due(0, "of", i, 1);
        }
    }

    private static void behindAllThatComesOfIt() {
        sentence("behind that, when all that comes of it is done, by number: the FAILURES of TRANSLATORS around tell");
        make("station", 50, 100, 5);
        make("guard", JOIN, 0, 0, 0, 0);
        make("guard", TRANSLATOR, 0, BROKEN, 0, DRY);
        make("guard", TRANSLATOR, 0, WORD, 0, DRY);
        make("guard", TRANSLATOR, 0, PLAN, 0, DRY);
        tower(2, 0);
        tower(1, 0);
        tower(3, 0);
        make("order", 1, 0, TAKE, 51, 0);
        make("order", 2, 0, TAKE, 51, 0);
        make("order", 0, 0, TAKE, 51, 0);
        due(3, "second", 5);
        int[] kinds = {DRY, BROKEN, PLAN, WORD};
        for (int i = 0; i < kinds.length; i++) {
            due(kinds[i], "failure", i, 0);
        }
        sentence("those JOINED to it that are UNDER WAY: not one that its HEDGE took back by what came of it");
        make("station", 50, 100, 2);
        make("guard", HEDGE, 1, 0, 0, 0);
        make("guard", JOIN, 0, 0, 0, 0);
        tower(0, 1);
        tower(1);
        make("order", 0, 0, READ, 0, 0);
        make("order", 1, 0, READ, 0, 0);
        make("second", 1);
        due(3, "joined", 1, 0);
        due(4, "joined", 1, 1);
        due(2, "second", 1);
        due(3, "call", 4, 7);
        due(1, "outcome", 1);
    }

    private static void takenBack() {
        sentence("one that LEADS: those JOINED to it END with GONE each, by number, with the JOIN as GUARD");
        make("station", 50, 100, 5);
        make("guard", LIMIT, 9, 9, 0, 0);
        make("guard", JOIN, 0, 0, 0, 0);
        tower(1);
        makeAll(3, "order", 0, 0, READ, 0, 0);
        make("second", 2);
        make("cancel", 0);
        order(1, 2, NONE, 0, 0, 2);
        order(2, 2, NONE, 1, 0, 2);
        all("failure", 0, GONE, 2, 1, NONE, NONE, NONE);
        all("failure", 1, GONE, 2, 1, NONE, NONE, NONE);
        due(NONE, "joined", 0, 0);
        sentence("one that is JOINED: nothing comes of it for the others");
        works(5);
        reads(3);
        make("cancel", 1);
        due(0, "count", 7);
        due(0, "outcome", 0);
        due(0, "outcome", 2);
        due(2, "second", 5);
        sentence("one that LEADS alone: no FAILURE");
        works(5);
        reads(1);
        make("order", 0, 1, READ, 0, 0);
        make("cancel", 0);
        due(0, "count", 7);
        due(0, "outcome", 1);
        sentence("by a DEADLINE around the one that LEADS: GONE comes ahead of LATE");
        works(9);
        make("guard", DEADLINE, 3, 0, 0, 0);
        tower(1, 0);
        make("order", 1, 0, READ, 0, 0);
        make("order", 0, 0, READ, 0, 0);
        due(2, "second", 3);
        due(GONE, "failure", 0, 0);
        due(LATE, "failure", 1, 0);
        due(1, "of", 0, 1);
        due(0, "of", 1, 1);
        sentence("what is GONE is NAMED by a RETRY around: it PAUSES, then LEADS");
        works(5);
        make("guard", RETRY, 2, 1, 0, GONE);
        tower(1, 0);
        make("order", 0, 0, READ, 0, 0);
        make("order", 1, 0, READ, 0, 0);
        make("cancel", 0);
        due(2, "call", 2, 10);
        make("second", 1);
        due(2, "call", 4, 2);
        due(0, "call", 4, 10);
        due(1, "second", 5);
        due(1, "outcome", 1);
    }
}
