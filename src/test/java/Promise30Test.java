/** Promise 30, count: 15 numbers. NONE. Each one at 0, at its most, and beside a refusal. */
public final class Promise30Test extends Told {
    public static void main(String[] args) {
        promise("30, count");
        noSuchWhat();
        most();
        callsUnderWay();
        triesUnderWay();
        ordersUnderWay();
        row();
        alarmsOn();
        failuresAndEffects();
        done();
    }

    private static void noSuchWhat() {
        sentence("NONE: no such what");
        int[] wrong = {-1, 15, MIN, MAX};
        for (int what : wrong) {
            due(NONE, "count", what);
        }
        due(0, "count", 0);
        due(0, "count", 14);
    }

    private static void most() {
        sentence("0 STATIONS, 1 FAULTS, 2 SLOWNESS, 3 GUARDS, 4 towers, 13 PLANS: each alone, and at its most");
        makeAll(8, "station", 50, 100, 1);
        due(8, "count", 0);
        due(0, "count", 1);
        makeAll(30, "fault", 0, READ, 0, 0, LINE);
        due(30, "count", 1);
        due(0, "count", 2);
        makeAll(30, "slow", 0, READ, 0, 0, 1);
        due(30, "count", 2);
        due(0, "count", 3);
        makeAll(24, "guard", JOIN, 0, 0, 0, 0);
        due(24, "count", 3);
        due(0, "count", 4);
        makeAll(10, "tower");
        due(10, "count", 4);
        due(0, "count", 13);
        makeAll(12, "plan", 0, 0, READ, 0, 9, 0, 0);
        due(12, "count", 13);
        due(0, "count", 5);
        makeAll(60, "order", 0, 0, TAKE, 1, 0);
        due(60, "count", 5);
        due(60, "count", 6);
        due(60, "count", 9);
        due(60, "count", 10);
        due(60, "count", 11);
        sentence("13 PLANS: stopped ones, too");
        make("station", 50, 100, 1);
        make("tower");
        make("plan", 0, 0, READ, 0, 1, 0, MOST);
        make("stop", 0);
        due(1, "count", 13);
        sentence("5 ORDERS are not CALLS: one that has six of them");
        make("station", 50, 100, 1);
        for (int sort = FUSE; sort <= LIMIT; sort++) {
            make("guard", sort, 1, 1, 0, 0);
        }
        make("guard", DEADLINE, 9, 0, 0, 0);
        make("guard", JOIN, 0, 0, 0, 0);
        tower(0, 1, 2, 3, 4);
        make("order", 0, 0, READ, 0, 0);
        due(1, "count", 5);
        due(6, "count", 6);
        due(6, "count", 9);
        due(1, "count", 10);
        due(1, "count", 11);
        sentence("5 ORDERS: those that ENDED or were cancelled, too");
        make("station", 50, 100, 1);
        make("tower");
        makeAll(3, "order", 0, 0, READ, 0, 0);
        make("cancel", 0);
        make("second", 1);
        due(3, "count", 5);
        due(3, "count", 6);
    }

    private static void callsUnderWay() {
        sentence("6 CALLS, 9 CALLS UNDER WAY: all of a tower, till each ENDS or is TAKEN BACK");
        make("station", 50, 100, 1);
        make("guard", RETRY, 2, 1, 0, ANY);
        make("guard", DEADLINE, 9, 0, 0, 0);
        make("fault", 0, READ, 1, 1, LINE);
        tower(0, 1);
        due(0, "count", 9);
        make("order", 0, 0, READ, 0, 0);
        due(3, "count", 6);
        due(3, "count", 9);
        make("second", 1);
        due(3, "count", 6);
        due(1, "count", 9);
        make("second", 1);
        due(5, "count", 6);
        due(3, "count", 9);
        make("cancel", 0);
        due(5, "count", 6);
        due(0, "count", 9);
        sentence("9 CALLS UNDER WAY: those that WAIT and are JOINED, too");
        make("station", 50, 100, 5);
        make("guard", BULKHEAD, 1, 1, 0, 0);
        make("guard", JOIN, 0, 0, 0, 0);
        tower(0);
        tower(1);
        makeAll(2, "order", 0, 0, READ, 0, 0);
        makeAll(2, "order", 1, 0, READ, 0, 0);
        due(6, "count", 9);
        due(6, "count", 6);
        sentence("9 CALLS UNDER WAY: not one that was refused");
        make("station", 50, 100, 5);
        make("guard", LIMIT, 1, 1, 0, 0);
        tower(0);
        makeAll(2, "order", 0, 0, READ, 0, 0);
        due(3, "count", 6);
        due(2, "count", 9);
    }

    private static void triesUnderWay() {
        int[][] guards = {{FUSE, 1, 1, 0, 0}, {BULKHEAD, 1, 1, 0, 0}, {LIMIT, 1, 1, 0, 0}, {DEADLINE, 9, 0, 0, 0}, {RETRY, 2, 1, 0, 0},
            {HEDGE, 9, 0, 0, 0}, {FALLBACK, 0, 0, 0, 0}, {MEMORY, 9, 0, 0, 0}, {JOIN, 0, 0, 0, 0}, {TRANSLATOR, 0, 0, 0, 0}};
        for (int[] guard : guards) {
            sentence("10 TRIES UNDER WAY: a CALL of sort " + guard[0] + " is none");
            make("station", 50, 100, 5);
            make("guard", guard);
            tower(0);
            make("order", 0, 0, READ, 0, 0);
            due(2, "count", 9);
            due(1, "count", 10);
        }
        sentence("10 TRIES UNDER WAY: no CALLS of GUARDS; both of a HEDGE");
        make("station", 50, 100, 5);
        make("guard", HEDGE, 1, 0, 0, 0);
        tower(0);
        due(0, "count", 10);
        make("order", 0, 0, READ, 0, 0);
        due(1, "count", 10);
        make("second", 1);
        due(2, "count", 10);
        make("second", 4);
        due(0, "count", 10);
        sentence("10 TRIES UNDER WAY: that of a FALLBACK, too");
        make("station", 50, 100, 5);
        make("guard", FALLBACK, 1, 0, 0, ANY);
        tower(0);
        make("order", 0, 0, TAKE, 51, 0);
        make("second", 5);
        due(1, "count", 10);
        sentence("9 CALLS, 10 TRIES UNDER WAY: when many have ENDED before");
        make("station", 50, 100, 2);
        make("guard", DEADLINE, 9, 0, 0, 0);
        tower(0);
        make("tower");
        makeAll(6, "order", 1, 0, READ, 0, 0);
        make("second", 1);
        makeAll(2, "order", 0, 0, READ, 0, 0);
        make("second", 1);
        due(4, "count", 9);
        due(2, "count", 10);
        make("order", 0, 0, READ, 0, 0);
        make("second", 1);
        due(2, "count", 9);
        due(1, "count", 10);
        sentence("9 CALLS, 10 TRIES, 11 ORDERS UNDER WAY: when the first of several has ENDED");
        make("station", 50, 100, 1);
        make("station", 50, 100, 9);
        make("tower");
        make("order", 0, 0, READ, 0, 0);
        makeAll(2, "order", 0, 1, READ, 0, 0);
        for (int second = 1; second < 9; second++) {
            make("second", 1);
            due(2, "count", 9);
            due(2, "count", 10);
            due(2, "count", 11);
        }
        due(2, "second", 1);
        due(0, "count", 9);
        sentence("10 TRIES UNDER WAY: not one that was TAKEN BACK");
        make("station", 50, 100, 5);
        make("tower");
        make("order", 0, 0, READ, 0, 0);
        make("cancel", 0);
        due(0, "count", 10);
    }

    private static void ordersUnderWay() {
        sentence("11 ORDERS UNDER WAY: neither those that ENDED nor those that were cancelled");
        make("station", 50, 100, 1);
        make("station", 50, 100, 2);
        make("tower");
        due(0, "count", 11);
        make("order", 0, 0, READ, 0, 0);
        make("order", 0, 0, TAKE, 51, 0);
        make("order", 0, 1, READ, 0, 0);
        make("order", 0, 1, READ, 0, 0);
        due(4, "count", 11);
        make("cancel", 3);
        due(3, "count", 11);
        make("second", 1);
        due(1, "count", 11);
        make("second", 1);
        due(0, "count", 11);
    }

    private static void row() {
        sentence("12 GUARDS in the row that will be a tower: 0 .. 5");
        for (int sort = FUSE; sort <= DEADLINE; sort++) {
            make("guard", sort, 1, sort == DEADLINE ? 0 : 1, 0, 0);
        }
        make("guard", JOIN, 0, 0, 0, 0);
        for (int i = 0; i < 5; i++) {
            due(i, "count", 12);
            make("on", i);
        }
        due(5, "count", 12);
        make("tower");
        due(0, "count", 12);
    }

    private static void alarmsOn() {
        sentence("14 ALARMS that are on: 0 .. 10");
        make("station", 50, 100, 1);
        make("tower");
        makeAll(5, "alarm", 1, 0, 50);
        makeAll(5, "alarm", 1, 0, 51);
        due(0, "count", 14);
        make("second", 1);
        due(5, "count", 14);
        make("order", 0, 0, TAKE, 1, 0);
        make("second", 1);
        due(10, "count", 14);
        make("order", 0, 0, GIVE, 2, 0);
        make("second", 1);
        due(0, "count", 14);
    }

    private static void failuresAndEffects() {
        sentence("7 FAILURES, 8 EFFECTS");
        make("station", 50, 100, 1);
        make("guard", TRANSLATOR, 0, WORD, 0, ANY);
        make("tower");
        tower(0);
        due(0, "count", 7);
        due(0, "count", 8);
        make("order", 0, 0, TAKE, 51, 0);
        make("order", 0, 0, TAKE, 1, 0);
        make("second", 1);
        due(1, "count", 7);
        due(1, "count", 8);
        make("order", 1, 0, TAKE, 51, 0);
        make("order", 0, 0, READ, 0, 0);
        make("second", 1);
        due(3, "count", 7);
        due(1, "count", 8);
    }
}
