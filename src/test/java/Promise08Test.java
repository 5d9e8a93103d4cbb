/** Promise 8, order: NONE: tower, station; RANGE: act, v not 0 .. 1000000 (of READ not 0), key below 0; FULL. */
public final class Promise08Test extends Told {
    public static void main(String[] args) {
        promise("8, order");
        noSuchNumber();
        acts();
        litres();
        keys();
        full();
        begins();
        done();
    }

    private static void works() {
        make("station", 50, 100, 1);
        make("tower");
    }

    private static void noSuchNumber() {
        sentence("NONE: tower");
        works();
        refused(NONE, "order", -1, 0, READ, 0, 0);
        refused(NONE, "order", 1, 0, READ, 0, 0);
        refused(NONE, "order", MIN, 0, READ, 0, 0);
        refused(NONE, "order", MAX, 0, READ, 0, 0);
        due(0, "order", 0, 0, READ, 0, 0);
        sentence("NONE: station");
        works();
        refused(NONE, "order", 0, -1, READ, 0, 0);
        refused(NONE, "order", 0, 1, READ, 0, 0);
        refused(NONE, "order", 0, MIN, READ, 0, 0);
        refused(NONE, "order", 0, MAX, READ, 0, 0);
        sentence("NONE: the row is no tower yet");
        make("station", 50, 100, 1);
        make("guard", JOIN, 0, 0, 0, 0);
        make("on", 0);
        refused(NONE, "order", 0, 0, READ, 0, 0);
        sentence("NONE: no STATION is there");
        make("tower");
        refused(NONE, "order", 0, 0, READ, 0, 0);
        sentence("all there are: STATION 7, tower 9");
        makeAll(8, "station", 50, 100, 1);
        makeAll(10, "tower");
        due(0, "order", 9, 7, READ, 0, 0);
        refused(NONE, "order", 10, 7, READ, 0, 0);
        refused(NONE, "order", 9, 8, READ, 0, 0);
        sentence("NONE is ahead of RANGE");
        works();
        refused(NONE, "order", 1, 0, 3, -1, -1);
        refused(NONE, "order", 0, 1, 3, -1, -1);
    }

    private static void acts() {
        sentence("RANGE: act");
        works();
        refused(RANGE, "order", 0, 0, -1, 0, 0);
        refused(RANGE, "order", 0, 0, 3, 0, 0);
        refused(RANGE, "order", 0, 0, MIN, 0, 0);
        refused(RANGE, "order", 0, 0, MAX, 0, 0);
        due(0, "order", 0, 0, READ, 0, 0);
        due(1, "order", 0, 0, GIVE, 0, 0);
    }

    private static void litres() {
        sentence("RANGE: v of READ not 0");
        works();
        refused(RANGE, "order", 0, 0, READ, 1, 0);
        refused(RANGE, "order", 0, 0, READ, -1, 0);
        refused(RANGE, "order", 0, 0, READ, MOST, 0);
        due(0, "order", 0, 0, READ, 0, 0);
        int[] moving = {TAKE, GIVE};
        for (int act : moving) {
            sentence("RANGE: v not 0 .. 1000000, of ACT " + act);
            works();
            refused(RANGE, "order", 0, 0, act, -1, 0);
            refused(RANGE, "order", 0, 0, act, MIN, 0);
            refused(RANGE, "order", 0, 0, act, MOST + 1, 0);
            refused(RANGE, "order", 0, 0, act, MAX, 0);
            due(0, "order", 0, 0, act, 0, 0);
            due(1, "order", 0, 0, act, MOST, 0);
            sentence("v 1000000 moves as much, of ACT " + act);
            make("station", act == TAKE ? MOST : 0, MOST, 1);
            make("tower");
            make("order", 0, 0, act, MOST, 0);
            make("second", 1);
            order(0, 1, MOST, NONE, 0, 1);
            due(act == TAKE ? 0 : MOST, "level", 0);
        }
        sentence("GIVE 1000000 to a full STATION of 1000000");
        make("station", MOST, MOST, 1);
        make("tower");
        make("order", 0, 0, GIVE, MOST, 0);
        make("second", 1);
        due(OVERFULL, "failure", 0, 0);
    }

    private static void keys() {
        sentence("RANGE: key below 0");
        works();
        refused(RANGE, "order", 0, 0, READ, 0, -1);
        refused(RANGE, "order", 0, 0, TAKE, 1, MIN);
        due(0, "order", 0, 0, READ, 0, 0);
        due(1, "order", 0, 0, TAKE, 1, MAX);
        make("second", 1);
        due(MAX, "effect", 0, 2);
    }

    private static void full() {
        sentence("its number: from 0 on, 60 at most");
        works();
        for (int i = 0; i < 60; i++) {
            due(i, "order", 0, 0, READ, 0, 0);
            due(i + 1, "count", 5);
        }
        refused(FULL, "order", 0, 0, READ, 0, 0);
        due(60, "count", 5);
        due(60, "count", 6);
        sentence("NONE and RANGE are ahead of FULL");
        works();
        makeAll(60, "order", 0, 0, READ, 0, 0);
        refused(NONE, "order", 1, 0, READ, 0, 0);
        refused(NONE, "order", 0, 1, READ, 0, 0);
        refused(RANGE, "order", 0, 0, 3, 0, 0);
        refused(RANGE, "order", 0, 0, READ, 1, 0);
        refused(RANGE, "order", 0, 0, READ, 0, -1);
        sentence("60 ORDERS, however many CALLS they have");
        make("station", 50, 100, 1);
        make("guard", LIMIT, 100, 100, 0, 0);
        tower(0);
        makeAll(59, "order", 0, 0, READ, 0, 0);
        due(118, "count", 6);
        due(59, "order", 0, 0, READ, 0, 0);
        refused(FULL, "order", 0, 0, READ, 0, 0);
        sentence("ORDERS that ENDED or were cancelled count");
        works();
        makeAll(59, "order", 0, 0, READ, 0, 0);
        make("second", 1);
        due(59, "order", 0, 0, READ, 0, 0);
        make("cancel", 59);
        refused(FULL, "order", 0, 0, READ, 0, 0);
        sentence("ORDERS of a PLAN count");
        works();
        make("plan", 0, 0, READ, 0, 1, 0, MOST);
        make("second", 59);
        due(59, "count", 5);
        due(59, "order", 0, 0, READ, 0, 0);
        refused(FULL, "order", 0, 0, READ, 0, 0);
    }

    private static void begins() {
        sentence("it BEGINS a CALL of DEPTH 0, at TIME");
        works();
        make("second", 4);
        due(0, "order", 0, 0, TAKE, 3, 0);
        order(0, 0, NONE, NONE, 4, NONE);
        all("call", 0, 0, 0, NONE, NONE, 0, 4, NONE, 0, NONE, NONE, 0);
        sentence("a tower of five: six CALLS at once, the last one a TRY");
        make("station", 50, 100, 1);
        make("guard", JOIN, 0, 0, 0, 0);
        make("guard", FUSE, 1, 1, 0, 0);
        make("guard", LIMIT, 1, 1, 0, 0);
        make("guard", HEDGE, 9, 0, 0, 0);
        make("guard", RETRY, 2, 1, 0, 0);
        tower(0, 1, 2, 3, 4);
        due(0, "order", 0, 0, READ, 0, 0);
        due(6, "count", 6);
        due(6, "count", 9);
        due(1, "count", 10);
        calls(1, 0, 0, 1, 2, 3, 4, 5);
        calls(2, 0, NONE, 0, 1, 2, 3, 4);
        calls(3, 0, 0, 1, 2, 3, 4, NONE);
        calls(4, 0, NONE, NONE, NONE, NONE, NONE, 0);
        sentence("it may END at once, and has its number all the same");
        make("station", 50, 100, 1);
        make("guard", BULKHEAD, 1, 0, 0, 0);
        tower(0);
        due(0, "order", 0, 0, READ, 0, 0);
        due(1, "order", 0, 0, READ, 0, 0);
        order(1, 2, NONE, 0, 0, 0);
        due(2, "order", 0, 0, READ, 0, 0);
        due(1, "count", 11);
    }
}
