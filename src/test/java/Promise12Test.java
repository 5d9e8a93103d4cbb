/** Promise 12, stop: how many ORDERS it made. NONE; STATE: it was stopped already. */
public final class Promise12Test extends Told {
    public static void main(String[] args) {
        promise("12, stop");
        noSuchPlan();
        state();
        howMany();
        stopped();
        done();
    }

    private static void works() {
        make("station", 50, 100, 1);
        make("tower");
        make("plan", 0, 0, TAKE, 1, 2, 0, MOST);
    }

    private static void noSuchPlan() {
        sentence("NONE: none is there");
        refused(NONE, "stop", 0);
        sentence("NONE: one is there");
        works();
        refused(NONE, "stop", -1);
        refused(NONE, "stop", 1);
        refused(NONE, "stop", MIN);
        refused(NONE, "stop", MAX);
        due(0, "stop", 0);
        sentence("NONE: all twelve are there");
        works();
        makeAll(11, "plan", 0, 0, READ, 0, 5, 0, MOST);
        refused(NONE, "stop", 12);
        due(0, "stop", 11);
    }

    private static void state() {
        sentence("STATE: it was stopped already");
        works();
        make("second", 5);
        due(2, "stop", 0);
        refused(STATE, "stop", 0);
        make("second", 5);
        refused(STATE, "stop", 0);
        all("planned", 0, 2, 1, 0, 0, 0);
        sentence("another one that was not stopped is stopped");
        works();
        make("plan", 0, 0, READ, 0, 5, 0, MOST);
        due(0, "stop", 0);
        due(0, "stop", 1);
    }

    private static void howMany() {
        sentence("how many ORDERS it made: none, ahead of its first second");
        works();
        make("second", 1);
        due(0, "stop", 0);
        sentence("how many ORDERS it made: one, in its first second");
        works();
        make("second", 2);
        due(1, "stop", 0);
        sentence("how many ORDERS it made: neither MISSED nor PASSED count");
        make("station", 50, 100, 1);
        make("tower");
        make("plan", 0, 0, TAKE, 1, 1, 49, MOST);
        make("second", 3);
        all("planned", 0, 2, 1, 0, 1, 1);
        due(2, "stop", 0);
        sentence("how many ORDERS it made: all sixty");
        make("station", 50, 100, 1);
        make("tower");
        make("plan", 0, 0, READ, 0, 1, 0, MOST);
        make("second", 63);
        due(60, "stop", 0);
        due(3, "planned", 0, 2);
        sentence("how many ORDERS it made: not those of others");
        works();
        make("plan", 0, 0, READ, 0, 1, 0, MOST);
        make("order", 0, 0, READ, 0, 0);
        make("second", 4);
        due(2, "stop", 0);
        due(4, "stop", 1);
    }

    private static void stopped() {
        sentence("till it is stopped: not in the second behind that");
        works();
        make("second", 1);
        make("stop", 0);
        make("second", 9);
        all("planned", 0, 0, NONE, 0, 0, 0);
        due(0, "count", 5);
        sentence("one that was stopped is neither MISSED nor PASSED");
        make("station", 50, 100, 1);
        make("tower");
        make("plan", 0, 0, READ, 0, 1, 51, MOST);
        make("plan", 0, 0, READ, 0, 1, 0, MOST);
        makeAll(60, "order", 0, 0, READ, 0, 0);
        make("second", 1);
        make("stop", 0);
        make("stop", 1);
        make("second", 3);
        all("planned", 0, 0, NONE, 0, 1, 0);
        all("planned", 1, 0, NONE, 1, 0, 0);
        sentence("its ORDERS go on");
        works();
        make("second", 2);
        make("stop", 0);
        due(1, "second", 1);
        due(49, "level", 0);
        sentence("other PLANS go on");
        works();
        make("plan", 0, 0, READ, 0, 2, 0, MOST);
        make("stop", 0);
        make("second", 2);
        due(1, "planned", 1, 0);
    }
}
