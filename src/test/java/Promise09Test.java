/** Promise 9, cancel: how many CALLS were TAKEN BACK. NONE; STATE: it ENDED, or was cancelled. */
public final class Promise09Test extends Told {
    public static void main(String[] args) {
        promise("9, cancel");
        noSuchOrder();
        state();
        howMany();
        whatIsLeft();
        thoseJoined();
        whatComesOfIt();
        whatItsGuardsDo();
        ordersOfPlans();
        done();
    }

    private static void works(int delay) {
        make("station", 50, 100, delay);
        make("tower");
    }

    private static void noSuchOrder() {
        sentence("NONE: none is there");
        works(1);
        refused(NONE, "cancel", 0);
        sentence("NONE: one is there");
        works(1);
        make("order", 0, 0, READ, 0, 0);
        refused(NONE, "cancel", -1);
        refused(NONE, "cancel", 1);
        refused(NONE, "cancel", MIN);
        refused(NONE, "cancel", MAX);
        due(1, "cancel", 0);
        sentence("NONE: all sixty are there");
        works(1);
        makeAll(60, "order", 0, 0, READ, 0, 0);
        refused(NONE, "cancel", 60);
        due(1, "cancel", 59);
    }

    private static void state() {
        sentence("STATE: it ENDED GOOD");
        works(1);
        make("order", 0, 0, READ, 0, 0);
        make("second", 1);
        refused(STATE, "cancel", 0);
        due(1, "outcome", 0);
        sentence("STATE: it ENDED with a FAILURE");
        works(1);
        make("order", 0, 0, TAKE, 51, 0);
        make("second", 1);
        refused(STATE, "cancel", 0);
        due(2, "outcome", 0);
        sentence("STATE: it ENDED GOOD by a FALLBACK");
        make("station", 50, 100, 1);
        make("guard", FALLBACK, 0, 0, 0, ANY);
        tower(0);
        make("order", 0, 0, TAKE, 51, 0);
        make("second", 1);
        refused(STATE, "cancel", 0);
        due(3, "outcome", 0);
        sentence("STATE: it ENDED at once");
        make("station", 50, 100, 1);
        make("guard", LIMIT, 1, 1, 0, 0);
        tower(0);
        makeAll(2, "order", 0, 0, READ, 0, 0);
        refused(STATE, "cancel", 1);
        sentence("STATE: it was cancelled");
        works(5);
        make("order", 0, 0, READ, 0, 0);
        make("cancel", 0);
        refused(STATE, "cancel", 0);
        make("second", 1);
        refused(STATE, "cancel", 0);
        due(0, "of", 0, 3);
    }

    private static void howMany() {
        sentence("how many they were: the TRY of an empty tower");
        works(5);
        make("order", 0, 0, READ, 0, 0);
        due(1, "cancel", 0);
        sentence("how many they were: the six of a tower of five");
        make("station", 50, 100, 5);
        make("guard", JOIN, 0, 0, 0, 0);
        make("guard", FUSE, 1, 1, 0, 0);
        make("guard", LIMIT, 1, 1, 0, 0);
        make("guard", BULKHEAD, 1, 1, 0, 0);
        make("guard", RETRY, 2, 1, 0, 0);
        tower(0, 1, 2, 3, 4);
        make("order", 0, 0, READ, 0, 0);
        due(6, "cancel", 0);
        due(0, "count", 9);
        sentence("how many they were: one that WAITS has none within");
        make("station", 50, 100, 5);
        make("guard", BULKHEAD, 1, 1, 0, 0);
        tower(0);
        makeAll(2, "order", 0, 0, READ, 0, 0);
        due(1, "cancel", 1);
        due(0, "bulkhead", 0, 1);
        sentence("how many they were: one that PAUSES has none UNDER WAY within");
        make("station", 50, 100, 1);
        make("guard", RETRY, 2, 5, 0, ANY);
        tower(0);
        make("fault", 0, READ, 1, 1, LINE);
        make("order", 0, 0, READ, 0, 0);
        make("second", 1);
        due(1, "cancel", 0);
        make("second", 9);
        due(2, "count", 6);
        sentence("how many they were: one that is JOINED has none within");
        make("station", 50, 100, 5);
        make("guard", JOIN, 0, 0, 0, 0);
        tower(0);
        makeAll(2, "order", 0, 0, READ, 0, 0);
        due(1, "cancel", 1);
        due(NONE, "joined", 0, 0);
        sentence("how many they were: a HEDGE and both within");
        make("station", 50, 100, 5);
        make("guard", HEDGE, 1, 0, 0, 0);
        tower(0);
        make("order", 0, 0, READ, 0, 0);
        make("second", 1);
        due(3, "cancel", 0);
        sentence("how many they were: a HEDGE and the one that is UNDER WAY still");
        make("station", 50, 100, 2);
        make("guard", HEDGE, 1, 0, 0, 0);
        tower(0);
        make("fault", 0, READ, 2, 2, LINE);
        make("slow", 0, READ, 1, 1, 5);
        make("order", 0, 0, READ, 0, 0);
        make("second", 2);
        due(2, "cancel", 0);
        calls(7, 0, 3, 2, 3);
        sentence("how many they were: a FALLBACK and its TRY at the other STATION");
        make("station", 50, 100, 1);
        make("station", 50, 100, 5);
        make("guard", FALLBACK, 1, 1, 0, ANY);
        tower(0);
        make("order", 0, 0, TAKE, 51, 0);
        make("second", 1);
        due(2, "cancel", 0);
        calls(7, 0, 3, 2, 3);
    }

    private static void whatIsLeft() {
        sentence("TAKEN BACK: all END so at TIME, with no answer and no FAILURE; it is cancelled");
        make("station", 50, 100, 2);
        make("guard", RETRY, 2, 1, 0, ANY);
        tower(0);
        make("order", 0, 0, TAKE, 1, 0);
        make("second", 1);
        due(2, "cancel", 0);
        all("call", 0, 0, 0, NONE, 0, NONE, 0, 1, 3, NONE, NONE, 0);
        all("call", 1, 0, 1, 0, NONE, 0, 0, 1, 3, NONE, NONE, 0);
        order(0, 4, NONE, NONE, 0, 1);
        due(0, "count", 11);
        sentence("nothing comes of it: no second counts it, no water moves, the RETRY is not told");
        make("station", 50, 100, 2);
        make("guard", RETRY, 2, 1, 0, ANY);
        tower(0);
        make("order", 0, 0, TAKE, 1, 0);
        make("second", 1);
        make("cancel", 0);
        due(0, "second", 9);
        due(50, "level", 0);
        due(0, "count", 8);
        due(0, "count", 7);
        due(2, "count", 6);
        order(0, 4, NONE, NONE, 0, 1);
        sentence("cancelled in the second in which it began");
        works(1);
        make("order", 0, 0, TAKE, 1, 0);
        due(1, "cancel", 0);
        order(0, 4, NONE, NONE, 0, 0);
        due(0, "second", 1);
        due(50, "level", 0);
        sentence("other ORDERS go on");
        works(1);
        makeAll(3, "order", 0, 0, TAKE, 1, 0);
        due(1, "cancel", 1);
        due(2, "second", 1);
        due(48, "level", 0);
        sentence("its KEY is free");
        works(1);
        make("order", 0, 0, TAKE, 1, 8);
        make("cancel", 0);
        make("order", 0, 0, TAKE, 2, 8);
        make("second", 1);
        due(48, "level", 0);
    }

    private static void thoseJoined() {
        sentence("those JOINED to it END with GONE each, by number; they are not counted, neither here nor by second");
        make("station", 50, 100, 5);
        make("guard", JOIN, 0, 0, 0, 0);
        tower(0);
        makeAll(4, "order", 0, 0, READ, 0, 0);
        make("cancel", 2);
        make("second", 1);
        due(2, "cancel", 0);
        order(1, 2, NONE, 0, 0, 1);
        order(2, 4, NONE, NONE, 0, 0);
        order(3, 2, NONE, 1, 0, 1);
        all("failure", 0, GONE, 1, 0, NONE, NONE, NONE);
        all("failure", 1, GONE, 1, 0, NONE, NONE, NONE);
        due(2, "count", 7);
        due(0, "second", 9);
        sentence("one JOINED to it in the same ORDER is TAKEN BACK with it, not GONE");
        make("station", 50, 100, 5);
        make("guard", HEDGE, 1, 0, 0, 0);
        make("guard", JOIN, 0, 0, 0, 0);
        tower(0, 1);
        make("order", 0, 0, READ, 0, 0);
        make("second", 1);
        due(3, "joined", 1, 0);
        due(4, "cancel", 0);
        due(0, "count", 7);
        calls(7, 0, 3, 3, 3, 3);
        sentence("GONE is NAMED by the FALLBACK of the other ORDER: its TRY BEGINS by cancel");
        make("station", 50, 100, 5);
        make("guard", JOIN, 0, 0, 0, 0);
        make("guard", FALLBACK, 1, 0, 0, GONE);
        tower(0);
        tower(1, 0);
        make("order", 0, 0, READ, 0, 0);
        make("order", 1, 0, READ, 0, 0);
        make("second", 1);
        due(2, "cancel", 0);
        due(0, "outcome", 1);
        all("call", 4, 1, 1, 2, NONE, 0, 1, NONE, 0, NONE, NONE, 0);
        due(1, "second", 5);
        order(1, 3, 50, NONE, 0, 6);
    }

    private static void whatComesOfIt() {
        sentence("those TAKEN BACK by what came of it, in another ORDER: their GUARDS do it once, and they are not counted");
        make("station", 50, 100, 9);
        make("guard", HEDGE, 1, 0, 0, 0);
        make("guard", FALLBACK, 0, 77, 0, GONE);
        make("guard", BULKHEAD, 3, 0, 0, 0);
        make("guard", JOIN, 0, 0, 0, 0);
        tower(3);
        tower(0, 1, 2, 3);
        tower(2);
        make("order", 0, 0, READ, 0, 0);
        make("order", 1, 0, READ, 0, 0);
        make("order", 2, 0, READ, 0, 0);
        make("second", 1);
        due(3, "bulkhead", 2, 0);
        due(2, "cancel", 0);
        order(1, 3, 77, NONE, 0, 1);
        calls(7, 0, 3, 3, 1, 1, 2, 2, 0, 0, 3, 3, 3);
        due(1, "bulkhead", 2, 0);
        due(1, "count", 7);
        due(1, "second", 9);
        due(0, "bulkhead", 2, 0);
    }

    private static void whatItsGuardsDo() {
        sentence("for each, what its GUARD does: the trial of a FUSE, AT WORK at a BULKHEAD, a JOIN that LEADS, all in one ORDER");
        make("station", 50, 100, 5);
        make("guard", FUSE, 1, 1, 0, ANY);
        make("guard", BULKHEAD, 1, 3, 0, 0);
        make("guard", JOIN, 0, 0, 0, 0);
        tower(0, 1, 2);
        tower(2);
        make("fault", 0, READ, 5, 5, LINE);
        make("order", 0, 0, READ, 0, 0);
        make("second", 7);
        all("fuse", 0, 1, 1, 6);
        make("order", 0, 0, READ, 0, 0);
        make("order", 1, 0, READ, 0, 0);
        make("second", 1);
        due(2, "fuse", 0, 0);
        due(1, "bulkhead", 1, 0);
        due(4, "cancel", 1);
        all("fuse", 0, 1, 1, 8);
        due(0, "bulkhead", 1, 0);
        due(2, "outcome", 2);
        due(GONE, "failure", 1, 0);
        sentence("a TOKEN that was taken stays so");
        make("station", 50, 100, 5);
        make("guard", LIMIT, 2, 1, 0, 0);
        tower(0);
        make("order", 0, 0, READ, 0, 0);
        make("cancel", 0);
        due(1, "tokens", 0);
    }

    private static void ordersOfPlans() {
        sentence("an ORDER of a PLAN; the PLAN goes on");
        works(5);
        make("plan", 0, 0, READ, 0, 1, 0, MOST);
        make("second", 1);
        due(1, "cancel", 0);
        make("second", 1);
        all("planned", 0, 2, 1, 0, 0, 1);
    }
}
