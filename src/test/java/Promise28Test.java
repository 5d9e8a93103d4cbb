/** Promise 28, effect: STATION, ORDER, KEY, litres, second. NONE. And the EFFECTS and KEYS of part 1. */
public final class Promise28Test extends Told {
    public static void main(String[] args) {
        promise("28, effect");
        noSuchNumber();
        whatIsOne();
        keyZero();
        keys();
        keysOfStations();
        done();
    }

    private static void works() {
        make("station", 50, 100, 1);
        make("station", 60, 100, 1);
        make("tower");
    }

    private static void noSuchNumber() {
        sentence("NONE: none is there");
        due(NONE, "effect", 0, 0);
        sentence("NONE: no such EFFECT, no such what");
        works();
        makeAll(2, "order", 0, 0, TAKE, 1, 0);
        make("second", 1);
        int[] effects = {-1, 2, MIN, MAX};
        for (int effect : effects) {
            for (int what = 0; what < 5; what++) {
                due(NONE, "effect", effect, what);
            }
        }
        int[] whats = {-1, 5, MIN, MAX};
        for (int what : whats) {
            due(NONE, "effect", 0, what);
        }
        due(1, "effect", 1, 1);
    }

    private static void whatIsOne() {
        sentence("litres: v, of TAKE -v");
        works();
        make("order", 0, 0, READ, 0, 0);
        make("order", 0, 1, TAKE, 7, 3);
        make("order", 0, 0, GIVE, 9, 4);
        due(0, "count", 8);
        make("second", 1);
        all("effect", 0, 1, 1, 3, -7, 1);
        all("effect", 1, 0, 2, 4, 9, 1);
        due(2, "count", 8);
        sentence("also of 0");
        works();
        make("order", 0, 0, TAKE, 0, 5);
        make("order", 0, 0, GIVE, 0, 6);
        make("second", 1);
        all("effect", 0, 0, 0, 5, 0, 1);
        all("effect", 1, 0, 1, 6, 0, 1);
        sentence("the greatest litres");
        make("station", MOST, MOST, 1);
        make("tower");
        make("order", 0, 0, TAKE, MOST, 0);
        make("order", 0, 0, GIVE, MOST, 0);
        make("second", 1);
        due(-MOST, "effect", 0, 3);
        due(MOST, "effect", 1, 3);
        sentence("a READ is none; what failed is none; what is TAKEN BACK is none");
        works();
        make("order", 0, 0, READ, 0, 8);
        make("order", 0, 0, TAKE, 51, 8);
        make("order", 0, 0, GIVE, 51, 8);
        make("order", 0, 0, TAKE, 1, 8);
        make("cancel", 3);
        make("second", 1);
        due(0, "count", 8);
        sentence("numbered from 0 on, in the order in which they came to be");
        works();
        make("slow", 0, TAKE, 0, 0, 1);
        make("order", 0, 0, TAKE, 1, 0);
        make("order", 0, 1, TAKE, 2, 0);
        make("second", 2);
        due(1, "effect", 0, 1);
        due(0, "effect", 1, 1);
        due(2, "effect", 1, 4);
    }

    private static void keyZero() {
        sentence("KEY 0 is none: each ACT moves");
        works();
        makeAll(3, "order", 0, 0, TAKE, 1, 0);
        make("second", 1);
        due(47, "level", 0);
        due(3, "count", 8);
        for (int i = 0; i < 3; i++) {
            due(0, "effect", i, 2);
        }
    }

    private static void keys() {
        int[] keys = {1, MAX};
        for (int key : keys) {
            sentence("KEY " + key + " has an EFFECT: an ACT does nothing, it does not fail, its answer is the size of the litres");
            works();
            make("order", 0, 0, TAKE, 10, key);
            make("order", 0, 0, TAKE, 10, key);
            make("order", 0, 0, TAKE, 3, key);
            make("order", 0, 0, GIVE, 4, key);
            due(4, "second", 1);
            due(40, "level", 0);
            due(1, "count", 8);
            for (int i = 0; i < 4; i++) {
                order(i, 1, 10, NONE, 0, 1);
            }
        }
        sentence("of GIVE, too: the size of its litres");
        works();
        make("order", 0, 0, GIVE, 10, 1);
        make("order", 0, 0, TAKE, 3, 1);
        make("second", 1);
        due(60, "level", 0);
        due(10, "of", 1, 0);
        sentence("an EFFECT of 0 litres, too: its answer is 0");
        works();
        make("order", 0, 0, TAKE, 0, 1);
        make("order", 0, 0, TAKE, 3, 1);
        make("second", 1);
        due(50, "level", 0);
        due(0, "of", 1, 0);
        sentence("it does not fail: what would be DRY or FULL is GOOD");
        works();
        make("order", 0, 0, TAKE, 10, 1);
        make("order", 0, 0, TAKE, MOST, 1);
        make("order", 0, 0, GIVE, MOST, 1);
        make("second", 1);
        due(0, "count", 7);
        due(10, "of", 1, 0);
        due(10, "of", 2, 0);
        sentence("an ACT that is no READ: READ answers the LEVEL");
        works();
        make("order", 0, 0, TAKE, 10, 1);
        make("order", 0, 0, READ, 0, 1);
        make("second", 1);
        due(40, "of", 1, 0);
        sentence("a READ makes no EFFECT: its KEY is free");
        works();
        make("order", 0, 0, READ, 0, 1);
        make("order", 0, 0, TAKE, 10, 1);
        make("second", 1);
        due(40, "level", 0);
        sentence("an ACT that failed makes none: its KEY is free");
        works();
        make("order", 0, 0, TAKE, 51, 1);
        make("order", 0, 0, TAKE, 10, 1);
        make("second", 1);
        due(2, "outcome", 0);
        due(40, "level", 0);
        sentence("it is the EFFECT's KEY, whatever ORDERS were before");
        works();
        make("order", 0, 0, TAKE, 51, 7);
        make("order", 0, 0, READ, 0, 8);
        make("order", 0, 1, TAKE, 2, 9);
        make("order", 0, 0, TAKE, 3, 1);
        make("order", 0, 0, GIVE, 4, 2);
        make("second", 1);
        make("order", 0, 0, TAKE, 5, 7);
        make("order", 0, 0, TAKE, 5, 2);
        make("order", 0, 0, TAKE, 5, 1);
        make("order", 0, 0, TAKE, 5, 9);
        make("second", 1);
        due(5, "of", 5, 0);
        due(4, "of", 6, 0);
        due(3, "of", 7, 0);
        due(5, "of", 8, 0);
        due(41, "level", 0);
        due(5, "count", 8);
        sentence("another KEY moves");
        works();
        make("order", 0, 0, TAKE, 10, 7);
        make("order", 0, 0, TAKE, 10, 8);
        make("order", 0, 0, TAKE, 10, 6);
        make("second", 1);
        due(20, "level", 0);
        due(3, "count", 8);
        sentence("long after, too");
        works();
        make("order", 0, 0, TAKE, 10, 1);
        make("second", 100);
        make("order", 0, 0, TAKE, 10, 1);
        make("second", 1);
        due(40, "level", 0);
        sentence("it does nothing in every tower, and in another ORDER's PAUSE");
        make("station", 50, 100, 1);
        make("guard", RETRY, 2, 1, 0, ANY);
        make("fault", 0, TAKE, 1, 1, LINE);
        make("tower");
        tower(0);
        make("order", 1, 0, TAKE, 10, 9);
        make("second", 1);
        make("order", 0, 0, TAKE, 7, 9);
        make("second", 2);
        due(43, "level", 0);
        due(1, "count", 8);
        order(0, 1, 7, NONE, 0, 3);
    }

    private static void keysOfStations() {
        sentence("at the STATION: the same KEY at another one moves");
        works();
        make("order", 0, 0, TAKE, 10, 1);
        make("order", 0, 1, TAKE, 5, 1);
        make("order", 0, 1, TAKE, 7, 1);
        make("second", 1);
        due(40, "level", 0);
        due(55, "level", 1);
        due(5, "of", 2, 0);
        sentence("at the STATION of the TRY: that of a FALLBACK");
        make("station", 50, 100, 1);
        make("station", 60, 100, 1);
        make("guard", FALLBACK, 1, 1, 0, ANY);
        tower(0);
        make("fault", 0, TAKE, 2, 9, LINE);
        make("order", 0, 0, TAKE, 10, 1);
        make("second", 1);
        makeAll(2, "order", 0, 0, TAKE, 7, 1);
        due(2, "second", 2);
        due(40, "level", 0);
        due(53, "level", 1);
        order(1, 3, 7, NONE, 1, 3);
        order(2, 3, 7, NONE, 1, 3);
        all("effect", 1, 1, 1, 1, -7, 3);
    }
}
