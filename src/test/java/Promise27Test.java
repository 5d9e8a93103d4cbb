/** Promise 27, level: a STATION's LEVEL. NONE. */
public final class Promise27Test extends Told {
    public static void main(String[] args) {
        promise("27, level");
        noSuchStation();
        moves();
        stays();
        done();
    }

    private static void works(int level, int capacity) {
        make("station", level, capacity, 2);
        make("tower");
    }

    private static void noSuchStation() {
        sentence("NONE: none is there");
        due(NONE, "level", 0);
        sentence("NONE: one is there");
        works(50, 100);
        int[] wrong = {-1, 1, MIN, MAX};
        for (int station : wrong) {
            due(NONE, "level", station);
        }
        due(50, "level", 0);
        sentence("NONE: all eight are there");
        for (int i = 0; i < 8; i++) {
            make("station", 10 + i, 100, 1);
        }
        due(17, "level", 7);
        due(NONE, "level", 8);
    }

    private static void moves() {
        sentence("TAKE: v less, in the second in which the TRY ENDS");
        works(50, 100);
        make("order", 0, 0, TAKE, 20, 0);
        due(50, "level", 0);
        make("second", 1);
        due(50, "level", 0);
        make("second", 1);
        due(30, "level", 0);
        make("second", 9);
        due(30, "level", 0);
        sentence("GIVE: v more");
        works(50, 100);
        make("order", 0, 0, GIVE, 20, 0);
        make("second", 2);
        due(70, "level", 0);
        sentence("down to 0, not below");
        works(50, 100);
        make("order", 0, 0, TAKE, 50, 0);
        make("order", 0, 0, TAKE, 1, 0);
        make("second", 2);
        due(0, "level", 0);
        sentence("up to the CAPACITY, not above");
        works(50, 100);
        make("order", 0, 0, GIVE, 50, 0);
        make("order", 0, 0, GIVE, 1, 0);
        make("second", 2);
        due(100, "level", 0);
        sentence("each STATION its own");
        works(50, 100);
        make("station", 60, 100, 2);
        make("order", 0, 1, TAKE, 5, 0);
        make("second", 2);
        due(50, "level", 0);
        due(55, "level", 1);
        sentence("several in one second, one after the other");
        works(50, 100);
        make("order", 0, 0, TAKE, 50, 0);
        make("order", 0, 0, GIVE, 100, 0);
        make("order", 0, 0, TAKE, 99, 0);
        make("second", 2);
        due(1, "level", 0);
    }

    private static void stays() {
        sentence("READ moves nothing");
        works(50, 100);
        make("order", 0, 0, READ, 0, 0);
        make("second", 2);
        due(50, "level", 0);
        sentence("TAKE 0 and GIVE 0 move nothing, also of an empty and a full STATION");
        works(0, 0);
        make("order", 0, 0, TAKE, 0, 0);
        make("order", 0, 0, GIVE, 0, 0);
        make("second", 2);
        due(0, "level", 0);
        due(1, "outcome", 0);
        due(1, "outcome", 1);
        sentence("what fails moves nothing: DRY, FULL, a FAULT");
        works(50, 100);
        make("order", 0, 0, TAKE, 51, 0);
        make("order", 0, 0, GIVE, 51, 0);
        make("second", 2);
        due(50, "level", 0);
        make("fault", 0, TAKE, 4, 4, LINE);
        make("order", 0, 0, TAKE, 1, 0);
        make("second", 2);
        due(50, "level", 0);
        sentence("what is TAKEN BACK moves nothing");
        works(50, 100);
        make("order", 0, 0, TAKE, 1, 0);
        make("cancel", 0);
        make("second", 2);
        due(50, "level", 0);
        sentence("what was done when its CALL is LATE is not: the TRY was TAKEN BACK");
        make("station", 50, 100, 2);
        make("guard", DEADLINE, 1, 0, 0, 0);
        tower(0);
        make("order", 0, 0, TAKE, 1, 0);
        make("second", 5);
        due(50, "level", 0);
        due(0, "count", 8);
    }
}
