/**
 * Promise 11, plan: NONE: tower, station; RANGE: act, v not 0 .. 1000000 (of READ not 0), every not 1 .. 1000, low below 0,
 * high below low; FULL. And when a PLAN is due.
 */
public final class Promise11Test extends Told {
    public static void main(String[] args) {
        promise("11, plan");
        noSuchNumber();
        actAndLitres();
        every();
        lowAndHigh();
        full();
        whenItIsDue();
        whatItOrders();
        done();
    }

    private static void works() {
        make("station", 50, 100, 1);
        make("tower");
    }

    private static void noSuchNumber() {
        sentence("NONE: tower");
        works();
        int[] wrong = {-1, 1, MIN, MAX};
        for (int number : wrong) {
            refused(NONE, "plan", number, 0, READ, 0, 1, 0, 0);
        }
        due(0, "plan", 0, 0, READ, 0, 1, 0, 0);
        sentence("NONE: station");
        works();
        for (int number : wrong) {
            refused(NONE, "plan", 0, number, READ, 0, 1, 0, 0);
        }
        sentence("all there are: STATION 7, tower 9");
        makeAll(8, "station", 50, 100, 1);
        makeAll(10, "tower");
        due(0, "plan", 9, 7, READ, 0, 1, 0, 0);
        refused(NONE, "plan", 10, 7, READ, 0, 1, 0, 0);
        refused(NONE, "plan", 9, 8, READ, 0, 1, 0, 0);
        sentence("NONE is ahead of RANGE");
        works();
        refused(NONE, "plan", 1, 0, 3, -1, 0, -1, -2);
        refused(NONE, "plan", 0, 1, 3, -1, 0, -1, -2);
    }

    private static void actAndLitres() {
        sentence("RANGE: act");
        works();
        int[] wrong = {-1, 3, MIN, MAX};
        for (int act : wrong) {
            refused(RANGE, "plan", 0, 0, act, 0, 1, 0, 0);
        }
        due(0, "plan", 0, 0, READ, 0, 1, 0, 0);
        due(1, "plan", 0, 0, GIVE, 0, 1, 0, 0);
        sentence("RANGE: v of READ not 0");
        works();
        refused(RANGE, "plan", 0, 0, READ, 1, 1, 0, 0);
        refused(RANGE, "plan", 0, 0, READ, -1, 1, 0, 0);
        due(0, "plan", 0, 0, READ, 0, 1, 0, 0);
        int[] moving = {TAKE, GIVE};
        for (int act : moving) {
            sentence("RANGE: v not 0 .. 1000000, of ACT " + act);
            works();
            refused(RANGE, "plan", 0, 0, act, -1, 1, 0, 0);
            refused(RANGE, "plan", 0, 0, act, MOST + 1, 1, 0, 0);
            refused(RANGE, "plan", 0, 0, act, MIN, 1, 0, 0);
            refused(RANGE, "plan", 0, 0, act, MAX, 1, 0, 0);
            due(0, "plan", 0, 0, act, 0, 1, 0, 0);
            due(1, "plan", 0, 0, act, MOST, 1, 0, 0);
        }
    }

    private static void every() {
        sentence("RANGE: every not 1 .. 1000");
        works();
        int[] wrong = {0, -1, 1001, MIN, MAX};
        for (int every : wrong) {
            refused(RANGE, "plan", 0, 0, READ, 0, every, 0, MOST);
        }
        sentence("every 1: due in each second");
        works();
        due(0, "plan", 0, 0, READ, 0, 1, 0, MOST);
        make("second", 1);
        due(1, "planned", 0, 0);
        make("second", 1);
        due(2, "planned", 0, 0);
        sentence("every 1000: due 1000 and 2000 seconds behind that in which it was made");
        works();
        make("second", 3);
        due(0, "plan", 0, 0, READ, 0, 1000, 0, MOST);
        seconds(999);
        due(0, "planned", 0, 0);
        make("second", 1);
        due(1, "planned", 0, 0);
        due(1003, "of", 0, 2);
        seconds(999);
        due(1, "planned", 0, 0);
        make("second", 1);
        due(2, "planned", 0, 0);
        due(2003, "of", 1, 2);
    }

    private static void lowAndHigh() {
        sentence("RANGE: low below 0");
        works();
        refused(RANGE, "plan", 0, 0, READ, 0, 1, -1, 100);
        refused(RANGE, "plan", 0, 0, READ, 0, 1, MIN, MAX);
        due(0, "plan", 0, 0, READ, 0, 1, 0, 100);
        sentence("RANGE: high below low");
        works();
        refused(RANGE, "plan", 0, 0, READ, 0, 1, 0, -1);
        refused(RANGE, "plan", 0, 0, READ, 0, 1, 50, 49);
        refused(RANGE, "plan", 0, 0, READ, 0, 1, MAX, MAX - 1);
        refused(RANGE, "plan", 0, 0, READ, 0, 1, MAX, MIN);
        due(0, "plan", 0, 0, READ, 0, 1, 50, 50);
        due(1, "plan", 0, 0, READ, 0, 1, MAX, MAX);
        due(2, "plan", 0, 0, READ, 0, 1, 0, 0);
        sentence("if the LEVEL is LOW .. HIGH: both themselves, not what is beside them");
        works();
        int[][] spans = {{50, 50}, {49, 50}, {50, 51}, {51, 51}, {49, 49}, {0, 49}, {51, MAX}, {0, MAX}};
        int[] passed = {0, 0, 0, 1, 1, 1, 1, 0};
        for (int[] span : spans) {
            make("plan", 0, 0, READ, 0, 1, span[0], span[1]);
        }
        make("second", 1);
        for (int i = 0; i < spans.length; i++) {
            due(1 - passed[i], "planned", i, 0);
            due(passed[i], "planned", i, 3);
        }
        sentence("LOW .. HIGH at the ends of a STATION: LEVEL 0 and LEVEL 1000000");
        make("station", 0, 0, 1);
        make("station", MOST, MOST, 1);
        make("tower");
        make("plan", 0, 0, READ, 0, 1, 0, 0);
        make("plan", 0, 0, READ, 0, 1, 1, MAX);
        make("plan", 0, 1, READ, 0, 1, MOST, MOST);
        make("plan", 0, 1, READ, 0, 1, 0, MOST - 1);
        make("plan", 0, 1, READ, 0, 1, MOST + 1, MAX);
        make("second", 1);
        due(1, "planned", 0, 0);
        due(1, "planned", 1, 3);
        due(1, "planned", 2, 0);
        due(1, "planned", 3, 3);
        due(1, "planned", 4, 3);
    }

    private static void full() {
        sentence("its number: from 0 on, 12 at most");
        works();
        for (int i = 0; i < 12; i++) {
            due(i, "plan", 0, 0, READ, 0, 5, 0, 0);
            due(i + 1, "count", 13);
        }
        refused(FULL, "plan", 0, 0, READ, 0, 5, 0, 0);
        due(12, "count", 13);
        sentence("FULL: one that was stopped leaves no room");
        works();
        makeAll(12, "plan", 0, 0, READ, 0, 5, 0, 0);
        make("stop", 3);
        refused(FULL, "plan", 0, 0, READ, 0, 5, 0, 0);
        sentence("NONE and RANGE are ahead of FULL");
        works();
        makeAll(12, "plan", 0, 0, READ, 0, 5, 0, 0);
        refused(NONE, "plan", 1, 0, READ, 0, 5, 0, 0);
        refused(NONE, "plan", 0, 1, READ, 0, 5, 0, 0);
        refused(RANGE, "plan", 0, 0, 3, 0, 5, 0, 0);
        refused(RANGE, "plan", 0, 0, READ, 1, 5, 0, 0);
        refused(RANGE, "plan", 0, 0, READ, 0, 0, 0, 0);
        refused(RANGE, "plan", 0, 0, READ, 0, 5, -1, 0);
        refused(RANGE, "plan", 0, 0, READ, 0, 5, 1, 0);
        sentence("a PLAN is no ORDER: sixty ORDERS leave room for it");
        works();
        makeAll(60, "order", 0, 0, READ, 0, 0);
        due(0, "plan", 0, 0, READ, 0, 5, 0, MOST);
    }

    private static void whenItIsDue() {
        sentence("due at EVERY, 2 EVERY, .. behind that in which it was made, not in it");
        works();
        make("second", 2);
        make("plan", 0, 0, READ, 0, 3, 0, MOST);
        due(0, "count", 5);
        make("second", 20);
        due(6, "planned", 0, 0);
        int[] began = {5, 8, 11, 14, 17, 20};
        for (int i = 0; i < 6; i++) {
            due(began[i], "of", i, 2);
        }
        sentence("one that is PASSED is due again EVERY later");
        works();
        make("plan", 0, 0, READ, 0, 2, 0, 49);
        make("second", 3);
        make("order", 0, 0, TAKE, 1, 0);
        make("second", 1);
        all("planned", 0, 1, 1, 0, 1, 1);
    }

    private static void whatItOrders() {
        sentence("an ORDER of its tower, STATION, ACT and v, with KEY 0");
        make("station", 50, 100, 1);
        make("station", 40, 100, 1);
        make("guard", JOIN, 0, 0, 0, 0);
        make("tower");
        tower(0);
        make("plan", 1, 1, GIVE, 7, 4, 0, MOST);
        make("second", 4);
        all("call", 0, 0, 0, NONE, 0, NONE, 4, NONE, 0, NONE, NONE, 0);
        all("call", 1, 0, 1, 0, NONE, 1, 4, NONE, 0, NONE, NONE, 0);
        due(1, "second", 1);
        all("effect", 0, 1, 0, 0, 7, 5);
        sentence("KEY 0 is none: each of its ORDERS moves water");
        works();
        make("plan", 0, 0, TAKE, 2, 1, 0, MOST);
        make("second", 4);
        due(44, "level", 0);
        due(3, "count", 8);
        sentence("if there are less than 60: the sixtieth, and no more");
        works();
        makeAll(59, "order", 0, 0, READ, 0, 0);
        make("plan", 0, 0, READ, 0, 1, 0, MOST);
        make("second", 1);
        all("planned", 0, 1, 59, 0, 0, 1);
        make("second", 1);
        all("planned", 0, 1, 59, 1, 0, 1);
        due(60, "count", 5);
        sentence("less than 60 ORDERS, however many CALLS they have");
        make("station", 50, 100, 1);
        make("guard", LIMIT, 100, 100, 0, 0);
        tower(0);
        makeAll(59, "order", 0, 0, READ, 0, 0);
        due(118, "count", 6);
        make("plan", 0, 0, READ, 0, 1, 0, MOST);
        make("second", 2);
        all("planned", 0, 1, 59, 1, 0, 1);
        sentence("two PLANS for the sixtieth: the first one has it");
        works();
        makeAll(59, "order", 0, 0, READ, 0, 0);
        makeAll(2, "plan", 0, 0, READ, 0, 1, 0, MOST);
        make("second", 1);
        all("planned", 0, 1, 59, 0, 0, 1);
        all("planned", 1, 0, NONE, 1, 0, 1);
        sentence("with sixty ORDERS a LEVEL that is not LOW .. HIGH is PASSED, not MISSED");
        works();
        makeAll(60, "order", 0, 0, READ, 0, 0);
        make("plan", 0, 0, READ, 0, 1, 51, MOST);
        make("second", 1);
        all("planned", 0, 0, NONE, 0, 1, 1);
    }
}
