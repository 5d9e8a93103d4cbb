/** Promise 13, planned: how many ORDERS, the latest (NONE), how often MISSED, PASSED, whether it goes on. NONE. */
public final class Promise13Test extends Told {
    public static void main(String[] args) {
        promise("13, planned");
        noSuchNumber();
        atFirst();
        made();
        missed();
        passed();
        goesOn();
        done();
    }

    private static void works(int every, int low, int high) {
        make("station", 50, 100, 1);
        make("tower");
        make("plan", 0, 0, TAKE, 1, every, low, high);
    }

    private static void noSuchNumber() {
        sentence("NONE: no such PLAN, no such what");
        works(1, 0, MOST);
        make("second", 1);
        int[] plans = {-1, 1, MIN, MAX};
        for (int plan : plans) {
            for (int what = 0; what < 5; what++) {
                due(NONE, "planned", plan, what);
            }
        }
        int[] whats = {-1, 5, MIN, MAX};
        for (int what : whats) {
            due(NONE, "planned", 0, what);
        }
        sentence("NONE: all twelve are there");
        works(1, 0, MOST);
        makeAll(11, "plan", 0, 0, READ, 0, 5, 0, MOST);
        due(0, "planned", 11, 0);
        due(NONE, "planned", 12, 0);
    }

    private static void atFirst() {
        sentence("at first: none, NONE, never, never, it goes on");
        works(3, 0, MOST);
        all("planned", 0, 0, NONE, 0, 0, 1);
        make("second", 2);
        all("planned", 0, 0, NONE, 0, 0, 1);
    }

    private static void made() {
        sentence("how many ORDERS it made, and the latest of these: ORDER 0");
        works(1, 0, MOST);
        make("second", 1);
        all("planned", 0, 1, 0, 0, 0, 1);
        sentence("the latest of these, not of all ORDERS");
        works(2, 0, MOST);
        make("order", 0, 0, READ, 0, 0);
        make("second", 4);
        make("order", 0, 0, READ, 0, 0);
        all("planned", 0, 2, 2, 0, 0, 1);
        sentence("an ORDER that ENDED at once was made, too");
        make("station", 50, 100, 9);
        make("guard", BULKHEAD, 1, 0, 0, 0);
        tower(0);
        make("plan", 0, 0, READ, 0, 1, 0, MOST);
        make("second", 2);
        all("planned", 0, 2, 1, 0, 0, 1);
    }

    private static void missed() {
        sentence("how often it was MISSED: with 60 ORDERS, not with 59");
        works(1, 0, MOST);
        makeAll(58, "order", 0, 0, READ, 0, 0);
        make("second", 1);
        all("planned", 0, 1, 58, 0, 0, 1);
        make("second", 1);
        all("planned", 0, 2, 59, 0, 0, 1);
        make("second", 1);
        all("planned", 0, 2, 59, 1, 0, 1);
        make("second", 100);
        all("planned", 0, 2, 59, 101, 0, 1);
    }

    private static void passed() {
        sentence("how often it was PASSED: below LOW, not at it");
        works(1, 49, MOST);
        make("second", 2);
        all("planned", 0, 2, 1, 0, 0, 1);
        make("second", 1);
        all("planned", 0, 2, 1, 0, 1, 1);
        make("second", 1);
        all("planned", 0, 2, 1, 0, 2, 1);
        sentence("how often it was PASSED: above HIGH, not at it");
        make("station", 50, 100, 1);
        make("tower");
        make("plan", 0, 0, GIVE, 1, 1, 0, 51);
        make("second", 2);
        all("planned", 0, 2, 1, 0, 0, 1);
        make("second", 2);
        all("planned", 0, 2, 1, 0, 2, 1);
    }

    private static void goesOn() {
        sentence("whether it goes on");
        works(1, 0, MOST);
        due(1, "planned", 0, 4);
        make("stop", 0);
        all("planned", 0, 0, NONE, 0, 0, 0);
    }
}
