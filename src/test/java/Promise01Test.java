/** Promise 1, a new object: TIME 0; nothing is there. Part 5: what has no number yet is refused. */
public final class Promise01Test extends Told {
    private static final int[] EDGES = {MIN, -1, 0, 1, MAX};

    public static void main(String[] args) {
        promise("1, a new object");
        empty();
        refusesWhatNeedsANumber();
        passesSeconds();
        objectsAreApart();
        takesAnyNumbers();
        done();
    }

    private static void empty() {
        sentence("TIME is 0 at first");
        due(0, "now");
        sentence("nothing is there");
        for (int what = 0; what < 15; what++) {
            due(0, "count", what);
        }
        sentence("nothing is there, so 0 is no number");
        String[] ofTwo = {"planned", "alarmed", "of", "failure", "call", "fuse", "bulkhead", "waiting", "joined", "effect"};
        for (String name : ofTwo) {
            due(NONE, name, 0, 0);
        }
        String[] ofOne = {"outcome", "tokens", "level"};
        for (String name : ofOne) {
            due(NONE, name, 0);
        }
        due(NONE, "kept", 0, 0, 0);
        sentence("the KINDS are there");
        due(1, "isOf", WORD, PLAN);
    }

    private static void refusesWhatNeedsANumber() {
        sentence("NONE: no such number, on a new object");
        refused(NONE, "fault", 0, READ, 0, 0, LINE);
        refused(NONE, "slow", 0, READ, 0, 0, 1);
        refused(NONE, "guard", FALLBACK, 1, 0, 0, ANY);
        refused(NONE, "on", 0);
        refused(NONE, "order", 0, 0, READ, 0, 0);
        refused(NONE, "cancel", 0);
        refused(NONE, "plan", 0, 0, READ, 0, 1, 0, 0);
        refused(NONE, "stop", 0);
        refused(NONE, "alarm", 0, 0, 0);
        refused(NONE, "alarm", 1, 0, 0);
        refused(NONE, "alarm", 2, 0, 1);
    }

    private static void passesSeconds() {
        sentence("SECONDS of an empty works");
        due(0, "second", 1);
        due(1, "now");
        due(0, "second", 100);
        due(101, "now");
    }

    private static void objectsAreApart() {
        sentence("nothing is there, whatever another object has");
        WaterWorks other = new WaterWorks();
        other.station(5, 9, 1);
        other.guard(JOIN, 0, 0, 0, 0);
        other.on(0);
        other.second(7);
        due(0, "now");
        due(0, "count", 0);
        due(0, "count", 3);
        due(0, "count", 12);
        make("station", 1, 1, 1);
        holds(other.level(0) == 5 && other.count(0) == 1 && other.now() == 7, "the other one is as it was");
    }

    /** Rule 7 of LANGUAGE.md: no call throws; here every call with every mix of numbers from the edges. */
    private static void takesAnyNumbers() {
        String[] names = {"station", "fault", "slow", "guard", "on", "tower", "order", "cancel", "second", "plan", "stop", "planned",
            "alarm", "alarmed", "now", "outcome", "of", "failure", "call", "fuse", "bulkhead", "waiting", "tokens", "kept", "joined",
            "level", "effect", "isOf", "count"};
        int[] takes = {3, 5, 5, 5, 1, 0, 5, 1, 1, 7, 1, 2, 3, 2, 0, 1, 2, 2, 2, 2, 2, 2, 1, 3, 2, 1, 2, 2, 1};
        for (int at = 0; at < names.length; at++) {
            mixes(names[at], takes[at]);
        }
    }

    private static void mixes(String name, int takes) {
        int mixes = 1;
        for (int i = 0; i < takes; i++) {
            mixes *= EDGES.length;
        }
        for (int mix = 0; mix < mixes; mix++) {
            if (mix % 480 == 0) {
                busyWorks(name);
            }
            int[] numbers = new int[takes];
            for (int i = 0, left = mix; i < takes; i++, left /= EDGES.length) {
                numbers[i] = EDGES[left % EDGES.length];
            }
            plain(name, numbers);
        }
    }

    private static void busyWorks(String name) {
        sentence(name + " answers, whatever the numbers");
        make("station", 1, 1, 1);
        make("station", 1, 1, 1);
        make("guard", BULKHEAD, 1, 1, 0, 0);
        make("guard", FUSE, 1, 1, 0, 0);
        make("guard", LIMIT, 1, 1, 0, 0);
        make("guard", MEMORY, 1, 0, 0, 0);
        tower(0, 1);
        tower(3, 2);
        make("plan", 0, 0, READ, 0, 1, 0, MAX);
        make("alarm", 3, 0, 0);
        make("order", 0, 0, TAKE, 1, 0);
        make("order", 0, 0, TAKE, 1, 0);
        make("order", 1, 1, READ, 0, 0);
        make("order", 1, 1, READ, 0, 0);
        make("second", 1);
    }
}
