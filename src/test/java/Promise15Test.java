/** Promise 15, alarmed: whether it is on, how often it RANG, the second in which it RANG latest (NONE). NONE. */
public final class Promise15Test extends Told {
    public static void main(String[] args) {
        promise("15, alarmed");
        noSuchNumber();
        atFirst();
        fuse();
        level();
        waiting();
        underWay();
        done();
    }

    private static void noSuchNumber() {
        sentence("NONE: no such ALARM, no such what");
        make("alarm", 3, 0, 0);
        int[] alarms = {-1, 1, MIN, MAX};
        for (int alarm : alarms) {
            for (int what = 0; what < 3; what++) {
                due(NONE, "alarmed", alarm, what);
            }
        }
        int[] whats = {-1, 3, MIN, MAX};
        for (int what : whats) {
            due(NONE, "alarmed", 0, what);
        }
        sentence("NONE: all ten are there");
        makeAll(10, "alarm", 3, 0, 0);
        due(0, "alarmed", 9, 1);
        due(NONE, "alarmed", 10, 1);
    }

    private static void atFirst() {
        sentence("each is off at first, and never RANG");
        make("alarm", 3, 0, 0);
        all("alarmed", 0, 0, 0, NONE);
        make("second", 9);
        all("alarmed", 0, 0, 0, NONE);
    }

    private static void fuse() {
        sentence("0: the FUSE x is OPEN: not CLOSED, not TRYING");
        make("station", 50, 100, 2);
        make("guard", JOIN, 0, 0, 0, 0);
        make("guard", FUSE, 2, 3, 0, ANY);
        tower(1);
        make("fault", 0, READ, 2, 2, LINE);
        make("alarm", 0, 1, 0);
        makeAll(2, "order", 0, 0, READ, 0, 0);
        make("second", 1);
        all("alarmed", 0, 0, 0, NONE);
        make("second", 1);
        all("alarmed", 0, 1, 1, 2);
        make("second", 9);
        all("alarmed", 0, 1, 1, 2);
        make("order", 0, 0, READ, 0, 0);
        due(2, "fuse", 1, 0);
        all("alarmed", 0, 1, 1, 2);
        make("second", 1);
        all("alarmed", 0, 0, 1, 2);
        make("second", 1);
        due(0, "fuse", 1, 0);
        all("alarmed", 0, 0, 1, 2);
        sentence("0: OPEN once more RINGS once more: a trial that was TAKEN BACK");
        make("station", 50, 100, 2);
        make("guard", FUSE, 1, 3, 0, ANY);
        tower(0);
        make("fault", 0, READ, 2, 2, LINE);
        make("alarm", 0, 0, 0);
        make("order", 0, 0, READ, 0, 0);
        make("second", 5);
        make("order", 0, 0, READ, 0, 0);
        make("second", 1);
        all("alarmed", 0, 0, 1, 2);
        make("cancel", 1);
        make("second", 1);
        all("alarmed", 0, 1, 2, 7);
        sentence("0: TRYING and OPEN again between two SECONDS: it was on all the time");
        make("station", 50, 100, 2);
        make("guard", FUSE, 1, 3, 0, ANY);
        tower(0);
        make("fault", 0, READ, 2, 2, LINE);
        make("alarm", 0, 0, 0);
        make("order", 0, 0, READ, 0, 0);
        make("second", 5);
        make("order", 0, 0, READ, 0, 0);
        make("cancel", 1);
        make("second", 1);
        all("alarmed", 0, 1, 1, 2);
    }

    private static void level() {
        sentence("1: the LEVEL of STATION x is below y: not at y");
        make("station", 0, 100, 1);
        make("station", 50, 100, 1);
        make("tower");
        make("alarm", 1, 1, 50);
        make("second", 1);
        all("alarmed", 0, 0, 0, NONE);
        make("order", 0, 1, TAKE, 1, 0);
        make("second", 1);
        all("alarmed", 0, 1, 1, 2);
        make("order", 0, 1, GIVE, 1, 0);
        make("second", 1);
        all("alarmed", 0, 0, 1, 2);
        make("order", 0, 1, TAKE, 50, 0);
        make("second", 1);
        all("alarmed", 0, 1, 2, 4);
        sentence("1: y 0 is never so, y 1 of an empty STATION is");
        make("station", 0, 100, 1);
        make("alarm", 1, 0, 0);
        make("alarm", 1, 0, 1);
        make("second", 1);
        due(0, "alarmed", 0, 0);
        due(1, "alarmed", 1, 0);
        sentence("1: y 1000000 is not so of a LEVEL of 1000000, and is of 999999");
        make("station", MOST, MOST, 1);
        make("station", MOST - 1, MOST, 1);
        make("alarm", 1, 0, MOST);
        make("alarm", 1, 1, MOST);
        make("second", 1);
        due(0, "alarmed", 0, 0);
        due(1, "alarmed", 1, 0);
        sentence("looked at in each SECOND: one of many SECONDS is told");
        make("station", 50, 100, 1);
        make("tower");
        make("slow", 0, TAKE, 0, 0, 10);
        make("slow", 0, GIVE, 0, 0, 20);
        make("alarm", 1, 0, 50);
        make("order", 0, 0, TAKE, 1, 0);
        make("order", 0, 0, GIVE, 1, 0);
        make("second", 100);
        all("alarmed", 0, 0, 1, 11);
        sentence("looked at at the end of a SECOND: what is so only within one does not count");
        make("station", 50, 100, 1);
        make("tower");
        make("alarm", 1, 0, 50);
        make("order", 0, 0, TAKE, 1, 0);
        make("order", 0, 0, GIVE, 1, 0);
        make("second", 1);
        all("alarmed", 0, 0, 0, NONE);
    }

    private static void waiting() {
        sentence("2: y or more wait at the BULKHEAD x: y - 1 do not, y and y + 1 do");
        make("station", 50, 100, 100);
        make("guard", JOIN, 0, 0, 0, 0);
        make("guard", BULKHEAD, 1, 10, 0, 0);
        tower(1);
        make("alarm", 2, 1, 2);
        makeAll(2, "order", 0, 0, READ, 0, 0);
        make("second", 1);
        all("alarmed", 0, 0, 0, NONE);
        make("order", 0, 0, READ, 0, 0);
        make("second", 1);
        all("alarmed", 0, 1, 1, 2);
        make("order", 0, 0, READ, 0, 0);
        make("second", 1);
        all("alarmed", 0, 1, 1, 2);
        make("cancel", 1);
        make("cancel", 2);
        make("second", 1);
        all("alarmed", 0, 0, 1, 2);
        sentence("2: y 1 and y 10");
        make("station", 50, 100, 100);
        make("guard", BULKHEAD, 1, 10, 0, 0);
        tower(0);
        make("alarm", 2, 0, 1);
        make("alarm", 2, 0, 10);
        make("order", 0, 0, READ, 0, 0);
        make("second", 1);
        due(0, "count", 14);
        makeAll(9, "order", 0, 0, READ, 0, 0);
        make("second", 1);
        due(1, "alarmed", 0, 0);
        due(0, "alarmed", 1, 0);
        make("order", 0, 0, READ, 0, 0);
        make("second", 1);
        due(1, "alarmed", 1, 0);
        due(2, "count", 14);
        sentence("2: those that go in in that SECOND wait no more");
        make("station", 50, 100, 1);
        make("guard", BULKHEAD, 1, 10, 0, 0);
        tower(0);
        make("alarm", 2, 0, 1);
        makeAll(2, "order", 0, 0, READ, 0, 0);
        make("second", 1);
        all("alarmed", 0, 0, 0, NONE);
    }

    private static void underWay() {
        sentence("3: some ORDER is UNDER WAY that began more than y seconds ago: not y");
        make("station", 50, 100, 100);
        make("tower");
        make("alarm", 3, 0, 3);
        make("second", 2);
        make("order", 0, 0, READ, 0, 0);
        make("second", 3);
        all("alarmed", 0, 0, 0, NONE);
        make("second", 1);
        all("alarmed", 0, 1, 1, 6);
        make("cancel", 0);
        all("alarmed", 0, 1, 1, 6);
        make("second", 1);
        all("alarmed", 0, 0, 1, 6);
        sentence("3: y 0: one that began in the second before");
        make("station", 50, 100, 100);
        make("tower");
        make("alarm", 3, 0, 0);
        make("plan", 0, 0, READ, 0, 1, 0, MOST);
        make("second", 1);
        all("alarmed", 0, 0, 0, NONE);
        make("second", 1);
        all("alarmed", 0, 1, 1, 2);
        sentence("3: y 1000000 is never so here");
        make("station", 50, 100, 100);
        make("tower");
        make("alarm", 3, 0, MOST);
        make("order", 0, 0, READ, 0, 0);
        make("second", 99);
        all("alarmed", 0, 0, 0, NONE);
        sentence("3: one that ENDS in that SECOND does not count");
        make("station", 50, 100, 2);
        make("tower");
        make("alarm", 3, 0, 1);
        make("order", 0, 0, READ, 0, 0);
        make("second", 2);
        all("alarmed", 0, 0, 0, NONE);
        sentence("3: any ORDER, also the last of several; it stays on while one takes the place of another");
        make("station", 50, 100, 100);
        make("tower");
        make("alarm", 3, 0, 0);
        makeAll(3, "order", 0, 0, READ, 0, 0);
        make("cancel", 0);
        make("cancel", 1);
        make("second", 1);
        all("alarmed", 0, 1, 1, 1);
        make("order", 0, 0, READ, 0, 0);
        make("cancel", 2);
        make("second", 1);
        all("alarmed", 0, 1, 1, 1);
    }
}
