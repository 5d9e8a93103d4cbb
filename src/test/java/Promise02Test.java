/** Promise 2, station: RANGE: capacity not 0 .. 1000000, level not 0 .. capacity, delay not 1 .. 100; FULL. */
public final class Promise02Test extends Told {
    public static void main(String[] args) {
        promise("2, station");
        capacity();
        level();
        delay();
        full();
        done();
    }

    private static void capacity() {
        sentence("capacity not 0 .. 1000000: 0 is good");
        due(0, "station", 0, 0, 1);
        due(0, "level", 0);
        sentence("capacity not 0 .. 1000000: below 0");
        refused(RANGE, "station", 0, -1, 1);
        refused(RANGE, "station", -1, -1, 1);
        refused(RANGE, "station", MIN, MIN, 1);
        sentence("capacity not 0 .. 1000000: 1000000 is good");
        due(0, "station", 0, MOST, 1);
        sentence("capacity not 0 .. 1000000: above that");
        refused(RANGE, "station", 0, MOST + 1, 1);
        refused(RANGE, "station", 0, MAX, 1);
        sentence("a CAPACITY of 0 takes GIVE 0 and no more");
        make("station", 0, 0, 1);
        make("tower");
        make("order", 0, 0, GIVE, 0, 0);
        make("order", 0, 0, GIVE, 1, 0);
        due(2, "second", 1);
        due(1, "outcome", 0);
        due(2, "outcome", 1);
        sentence("a CAPACITY of 1000000 takes GIVE 1000000 and no more");
        make("station", 0, MOST, 1);
        make("tower");
        make("order", 0, 0, GIVE, MOST, 0);
        make("order", 0, 0, GIVE, 1, 0);
        due(2, "second", 1);
        due(1, "outcome", 0);
        due(2, "outcome", 1);
        due(MOST, "level", 0);
    }

    private static void level() {
        sentence("level not 0 .. capacity: 0 is good");
        due(0, "station", 0, 7, 1);
        due(0, "level", 0);
        sentence("level not 0 .. capacity: below 0");
        refused(RANGE, "station", -1, 7, 1);
        refused(RANGE, "station", MIN, 7, 1);
        sentence("level not 0 .. capacity: capacity is good");
        due(0, "station", 7, 7, 1);
        due(7, "level", 0);
        sentence("level not 0 .. capacity: above that");
        refused(RANGE, "station", 8, 7, 1);
        refused(RANGE, "station", 1, 0, 1);
        refused(RANGE, "station", MAX, 7, 1);
        sentence("level not 0 .. capacity: the greatest of both");
        due(0, "station", MOST, MOST, 1);
        due(MOST, "level", 0);
        refused(RANGE, "station", MOST + 1, MOST, 1);
        refused(RANGE, "station", MOST + 1, MOST + 1, 1);
    }

    private static void delay() {
        sentence("delay not 1 .. 100: below 1");
        refused(RANGE, "station", 1, 2, 0);
        refused(RANGE, "station", 1, 2, -1);
        refused(RANGE, "station", 1, 2, MIN);
        sentence("delay not 1 .. 100: above 100");
        refused(RANGE, "station", 1, 2, 101);
        refused(RANGE, "station", 1, 2, MAX);
        sentence("delay not 1 .. 100: 1 is good, and a TRY ENDS 1 second later");
        due(0, "station", 1, 2, 1);
        make("tower");
        make("order", 0, 0, READ, 0, 0);
        due(0, "outcome", 0);
        due(1, "second", 1);
        due(1, "of", 0, 3);
        sentence("delay not 1 .. 100: 100 is good, and a TRY ENDS 100 seconds later");
        due(0, "station", 1, 2, 100);
        make("tower");
        make("order", 0, 0, READ, 0, 0);
        due(0, "second", 99);
        due(0, "outcome", 0);
        due(1, "second", 1);
        due(100, "of", 0, 3);
    }

    private static void full() {
        sentence("its number: from 0 on, 8 at most");
        for (int i = 0; i < 8; i++) {
            due(i, "station", i, 9, 1);
            due(i + 1, "count", 0);
        }
        refused(FULL, "station", 0, 9, 1);
        due(8, "count", 0);
        for (int i = 0; i < 8; i++) {
            due(i, "level", i);
        }
        sentence("of several refusals the first one: RANGE is ahead of FULL");
        makeAll(8, "station", 1, 9, 1);
        refused(RANGE, "station", 0, -1, 1);
        refused(RANGE, "station", 10, 9, 1);
        refused(RANGE, "station", 0, 9, 0);
        sentence("a refused one takes no number");
        refused(RANGE, "station", 0, 9, 0);
        due(0, "station", 0, 9, 1);
        refused(RANGE, "station", 0, 9, 101);
        due(1, "station", 0, 9, 1);
    }
}
