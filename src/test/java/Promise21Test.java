/** Promise 21, fuse: 0 CLOSED, 1 OPEN, 2 TRYING; COUNT, UNTIL (0 at first). NONE (another GUARD, too). And the FUSE of part 3. */
public final class Promise21Test extends Told {
    public static void main(String[] args) {
        promise("21, fuse");
        noSuchNumber();
        closed();
        open();
        trialEnds();
        trialEndsAtOnce();
        trialTakenBack();
        othersEnd();
        thenAlike();
        oneForAll();
        done();
    }

    /** A STATION of DELAY 1 whose READ is BROKEN in the seconds from .. to, a FUSE that NAMES BROKEN. */
    private static void works(int a, int b, int from, int to) {
        make("station", 50, 100, 1);
        make("guard", FUSE, a, b, 0, BROKEN);
        make("fault", 0, READ, from, to, BROKEN);
        tower(0);
    }

    private static void read() {
        make("order", 0, 0, READ, 0, 0);
        make("second", 1);
    }

    private static void noSuchNumber() {
        sentence("NONE: no such GUARD, another GUARD, no such what");
        make("guard", LIMIT, 5, 5, 0, 0);
        make("guard", FUSE, 5, 5, 0, 0);
        make("guard", BULKHEAD, 5, 5, 0, 0);
        int[] guards = {-1, 0, 2, 3, MIN, MAX};
        for (int guard : guards) {
            for (int what = 0; what < 3; what++) {
                due(NONE, "fuse", guard, what);
            }
        }
        int[] whats = {-1, 3, MIN, MAX};
        for (int what : whats) {
            due(NONE, "fuse", 1, what);
        }
        sentence("it is CLOSED at first, a COUNT of 0, UNTIL 0");
        make("guard", FUSE, 1, 1000, 0, 0);
        make("second", 3);
        all("fuse", 0, 0, 0, 0);
        sentence("NONE: all 24 are there");
        makeAll(24, "guard", FUSE, 1, 1, 0, 0);
        due(0, "fuse", 23, 0);
        due(NONE, "fuse", 24, 0);
    }

    private static void closed() {
        sentence("NAMED: COUNT is 1 more, and at a it is OPEN, UNTIL TIME and b");
        works(3, 5, 1, 9);
        read();
        all("fuse", 0, 0, 1, 0);
        read();
        all("fuse", 0, 0, 2, 0);
        read();
        all("fuse", 0, 1, 3, 8);
        sentence("GOOD at a - 1: COUNT 0");
        works(3, 5, 1, 2);
        read();
        read();
        due(2, "fuse", 0, 1);
        read();
        all("fuse", 0, 0, 0, 0);
        sentence("not NAMED at a - 1: COUNT 0");
        works(3, 5, 1, 2);
        make("fault", 0, READ, 3, 3, NOISE);
        read();
        read();
        read();
        due(2, "outcome", 2);
        all("fuse", 0, 0, 0, 0);
        sentence("TAKEN BACK: COUNT stays");
        works(3, 5, 1, 2);
        read();
        make("order", 0, 0, READ, 0, 0);
        make("cancel", 1);
        all("fuse", 0, 0, 1, 0);
        sentence("several GO IN while it is CLOSED");
        works(1, 5, 9, 9);
        makeAll(5, "order", 0, 0, READ, 0, 0);
        due(5, "count", 10);
        sentence("a FAILURE of a GUARD within is NAMED, too");
        make("station", 50, 100, 1);
        make("guard", FUSE, 1, 5, 0, BY_GUARD);
        make("guard", LIMIT, 1, 1, 0, 0);
        tower(0, 1);
        makeAll(2, "order", 0, 0, READ, 0, 0);
        all("fuse", 0, 1, 1, 5);
        make("second", 1);
        all("fuse", 0, 1, 1, 5);
    }

    private static void open() {
        sentence("OPEN: before its second UNTIL: refused; refusals count nowhere");
        works(1, 3, 1, 1);
        read();
        all("fuse", 0, 1, 1, 4);
        make("order", 0, 0, READ, 0, 0);
        order(1, 2, NONE, 1, 1, 1);
        all("failure", 1, OPEN, 1, 0, NONE, NONE, NONE);
        make("second", 2);
        make("order", 0, 0, READ, 0, 0);
        due(2, "outcome", 2);
        due(3, "count", 7);
        all("fuse", 0, 1, 1, 4);
        sentence("OPEN: from its second UNTIL on: TRYING, with this CALL as the trial");
        works(1, 3, 1, 1);
        read();
        make("second", 3);
        all("fuse", 0, 1, 1, 4);
        make("order", 0, 0, READ, 0, 0);
        all("fuse", 0, 2, 1, 4);
        due(0, "outcome", 1);
        sentence("OPEN: long behind UNTIL it is OPEN till a CALL BEGINS");
        works(1, 3, 1, 1);
        read();
        make("second", 100);
        all("fuse", 0, 1, 1, 4);
        make("order", 0, 0, READ, 0, 0);
        all("fuse", 0, 2, 1, 4);
        sentence("TRYING: refused likewise");
        works(1, 3, 1, 1);
        read();
        make("second", 3);
        make("order", 0, 0, READ, 0, 0);
        make("order", 0, 0, READ, 0, 0);
        order(2, 2, NONE, 1, 4, 4);
        all("failure", 1, OPEN, 4, 0, NONE, NONE, NONE);
        due(2, "fuse", 0, 0);
    }

    private static void trialEnds() {
        sentence("the trial is GOOD: CLOSED, COUNT 0");
        works(2, 3, 1, 1);
        makeAll(2, "order", 0, 0, READ, 0, 0);
        make("second", 4);
        read();
        all("fuse", 0, 0, 0, 4);
        make("order", 0, 0, READ, 0, 0);
        due(0, "outcome", 3);
        sentence("the trial is NAMED: OPEN, UNTIL is TIME and b");
        works(2, 3, 1, 5);
        makeAll(2, "order", 0, 0, READ, 0, 0);
        make("second", 4);
        all("fuse", 0, 1, 2, 4);
        read();
        all("fuse", 0, 1, 2, 8);
        make("second", 2);
        make("order", 0, 0, READ, 0, 0);
        due(2, "outcome", 3);
        make("second", 1);
        make("order", 0, 0, READ, 0, 0);
        due(0, "outcome", 4);
        sentence("the trial fails, not NAMED: CLOSED, COUNT 0");
        works(2, 3, 1, 1);
        make("fault", 0, READ, 5, 5, NOISE);
        makeAll(2, "order", 0, 0, READ, 0, 0);
        make("second", 4);
        read();
        due(2, "outcome", 2);
        all("fuse", 0, 0, 0, 4);
    }

    private static void trialEndsAtOnce() {
        sentence("the trial is refused within, NAMED: OPEN at once, UNTIL is TIME and b");
        make("station", 50, 100, 1);
        make("guard", FUSE, 1, 3, 0, ANY);
        make("guard", BULKHEAD, 1, 0, 0, 0);
        tower(0, 1);
        tower(1);
        make("fault", 0, READ, 1, 1, LINE);
        make("order", 0, 0, READ, 0, 0);
        make("second", 4);
        make("order", 1, 0, READ, 0, 0);
        make("order", 0, 0, READ, 0, 0);
        order(2, 2, NONE, 1, 4, 4);
        all("fuse", 0, 1, 1, 7);
        sentence("the trial is refused within, not NAMED: CLOSED at once");
        make("station", 50, 100, 1);
        make("guard", FUSE, 1, 3, 0, LINE);
        make("guard", BULKHEAD, 1, 0, 0, 0);
        tower(0, 1);
        tower(1);
        make("fault", 0, READ, 1, 1, LINE);
        make("order", 0, 0, READ, 0, 0);
        make("second", 4);
        make("order", 1, 0, READ, 0, 0);
        make("order", 0, 0, READ, 0, 0);
        due(2, "outcome", 2);
        all("fuse", 0, 0, 0, 4);
    }

    private static void trialTakenBack() {
        sentence("TAKEN BACK: the trial: it is OPEN, UNTIL TIME, so that the next one is a trial");
        works(1, 3, 1, 1);
        make("slow", 0, READ, 2, 99, 9);
        read();
        make("second", 5);
        make("order", 0, 0, READ, 0, 0);
        make("second", 1);
        make("cancel", 1);
        all("fuse", 0, 1, 1, 7);
        make("order", 0, 0, READ, 0, 0);
        all("fuse", 0, 2, 1, 7);
        due(0, "outcome", 2);
        make("order", 0, 0, READ, 0, 0);
        due(2, "outcome", 3);
        sentence("TAKEN BACK by a DEADLINE: the trial");
        works(1, 3, 1, 1);
        make("guard", DEADLINE, 2, 0, 0, 0);
        tower(1, 0);
        make("slow", 0, READ, 2, 99, 9);
        read();
        make("second", 3);
        make("order", 1, 0, READ, 0, 0);
        due(2, "fuse", 0, 0);
        make("second", 2);
        due(LATE, "failure", 1, 0);
        all("fuse", 0, 1, 1, 6);
        sentence("TAKEN BACK: one that is no trial, while another one is");
        works(1, 3, 1, 1);
        make("slow", 0, TAKE, 0, 0, 50);
        make("order", 0, 0, TAKE, 1, 0);
        read();
        make("second", 3);
        make("order", 0, 0, READ, 0, 0);
        make("cancel", 0);
        all("fuse", 0, 2, 1, 4);
        make("second", 1);
        all("fuse", 0, 0, 0, 4);
    }

    private static void othersEnd() {
        sentence("another one that ENDS while it is OPEN: nothing, NAMED or GOOD");
        works(1, 3, 1, 2);
        make("slow", 0, TAKE, 0, 0, 1);
        make("order", 0, 0, READ, 0, 0);
        make("order", 0, 0, READ, 0, 0);
        make("order", 0, 0, TAKE, 1, 0);
        due(2, "second", 1);
        all("fuse", 0, 1, 1, 4);
        due(1, "second", 1);
        due(1, "outcome", 2);
        all("fuse", 0, 1, 1, 4);
        sentence("another one that ENDS while it is TRYING: nothing, NAMED or GOOD");
        works(1, 1, 1, 1);
        make("fault", 0, GIVE, 3, 3, BROKEN);
        make("slow", 0, TAKE, 0, 0, 2);
        make("slow", 0, GIVE, 0, 0, 2);
        make("slow", 0, READ, 2, 2, 5);
        make("order", 0, 0, READ, 0, 0);
        make("order", 0, 0, TAKE, 1, 0);
        make("order", 0, 0, GIVE, 1, 0);
        make("second", 2);
        make("order", 0, 0, READ, 0, 0);
        all("fuse", 0, 2, 1, 2);
        due(2, "second", 1);
        all("fuse", 0, 2, 1, 2);
        due(1, "second", 5);
        all("fuse", 0, 0, 0, 2);
        sentence("another one that went in before, if it is CLOSED again: it counts");
        works(2, 1, 1, 1);
        make("fault", 0, GIVE, 9, 9, BROKEN);
        make("slow", 0, GIVE, 0, 0, 8);
        make("order", 0, 0, GIVE, 1, 0);
        makeAll(2, "order", 0, 0, READ, 0, 0);
        make("second", 1);
        all("fuse", 0, 1, 2, 2);
        make("second", 1);
        read();
        all("fuse", 0, 0, 0, 2);
        make("second", 6);
        all("fuse", 0, 0, 1, 2);
    }

    /** One ORDER has the FUSE within its JOIN and a TRANSLATOR between, another one, JOINED to it, around its JOIN. */
    private static void joinedAround(int kind, int told) {
        make("station", 50, 100, 1);
        make("guard", FUSE, 3, 5, 0, BROKEN);
        make("guard", TRANSLATOR, 0, told, 0, kind);
        make("guard", JOIN, 0, 0, 0, 0);
        make("fault", 0, READ, 1, 9, kind);
        tower(2, 1, 0);
        tower(0, 2);
        make("order", 0, 0, READ, 0, 0);
        make("order", 1, 0, READ, 0, 0);
        due(2, "second", 1);
        due(told, "failure", make("of", 1, 1), 0);
    }

    private static void thenAlike() {
        sentence("then ALIKE: COUNT is 1 more ahead of what comes of that, by which it is 0");
        joinedAround(BROKEN, WORD);
        all("fuse", 0, 0, 0, 0);
        sentence("then ALIKE: COUNT is 0 ahead of what comes of that, by which it is 1");
        joinedAround(NOISE, BROKEN);
        all("fuse", 0, 0, 1, 0);
    }

    private static void oneForAll() {
        sentence("what it has is one for all its towers");
        works(2, 3, 1, 1);
        make("guard", DEADLINE, 9, 0, 0, 0);
        tower(1, 0);
        make("order", 0, 0, READ, 0, 0);
        make("order", 1, 0, READ, 0, 0);
        make("second", 1);
        all("fuse", 0, 1, 2, 4);
        make("order", 1, 0, READ, 0, 0);
        due(2, "outcome", 2);
        sentence("two FUSES are apart");
        works(1, 3, 1, 1);
        make("guard", FUSE, 1, 3, 0, BROKEN);
        tower(1);
        read();
        all("fuse", 0, 1, 1, 4);
        all("fuse", 1, 0, 0, 0);
        make("order", 1, 0, READ, 0, 0);
        due(0, "outcome", 1);
        sentence("a HEDGE around: the first is the trial, the second is refused");
        works(1, 3, 1, 1);
        make("guard", HEDGE, 1, 0, 0, 0);
        tower(1, 0);
        make("slow", 0, READ, 2, 99, 3);
        read();
        make("second", 3);
        make("order", 1, 0, READ, 0, 0);
        make("second", 1);
        due(OPEN, "failure", 1, 0);
        all("fuse", 0, 2, 1, 4);
        due(1, "second", 3);
        all("fuse", 0, 0, 0, 4);
    }
}
