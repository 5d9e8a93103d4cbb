/** Promise 4, slow: how many; NONE; RANGE: act, a below 0, b below a, seconds not 1 .. 1000; FULL. And when it counts. */
public final class Promise04Test extends Told {
    public static void main(String[] args) {
        promise("4, slow");
        noStation();
        bounds();
        full();
        whenItCounts();
        howLong();
        done();
    }

    private static void noStation() {
        sentence("NONE: no such STATION, one is there");
        make("station", 5, 9, 1);
        refused(NONE, "slow", -1, READ, 0, 0, 1);
        refused(NONE, "slow", 1, READ, 0, 0, 1);
        refused(NONE, "slow", MIN, READ, 0, 0, 1);
        refused(NONE, "slow", MAX, READ, 0, 0, 1);
        due(1, "slow", 0, READ, 0, 0, 1);
        sentence("NONE: no such STATION, all eight are there");
        makeAll(8, "station", 5, 9, 1);
        due(1, "slow", 7, READ, 0, 0, 1);
        refused(NONE, "slow", 8, READ, 0, 0, 1);
        sentence("NONE is ahead of RANGE");
        refused(NONE, "slow", 0, 3, -1, -2, 0);
    }

    private static void bounds() {
        sentence("RANGE: act");
        make("station", 5, 9, 1);
        refused(RANGE, "slow", 0, -1, 0, 0, 1);
        refused(RANGE, "slow", 0, 3, 0, 0, 1);
        refused(RANGE, "slow", 0, MIN, 0, 0, 1);
        refused(RANGE, "slow", 0, MAX, 0, 0, 1);
        due(1, "slow", 0, READ, 0, 0, 1);
        due(2, "slow", 0, GIVE, 0, 0, 1);
        sentence("RANGE: a below 0");
        make("station", 5, 9, 1);
        refused(RANGE, "slow", 0, READ, -1, 0, 1);
        refused(RANGE, "slow", 0, READ, MIN, MAX, 1);
        due(1, "slow", 0, READ, 0, MAX, 1);
        sentence("RANGE: b below a");
        make("station", 5, 9, 1);
        refused(RANGE, "slow", 0, READ, 0, -1, 1);
        refused(RANGE, "slow", 0, READ, 5, 4, 1);
        refused(RANGE, "slow", 0, READ, MAX, MAX - 1, 1);
        due(1, "slow", 0, READ, 5, 5, 1);
        due(2, "slow", 0, READ, MAX, MAX, 1);
        sentence("RANGE: seconds not 1 .. 1000");
        make("station", 5, 9, 1);
        refused(RANGE, "slow", 0, READ, 0, 0, 0);
        refused(RANGE, "slow", 0, READ, 0, 0, -1);
        refused(RANGE, "slow", 0, READ, 0, 0, 1001);
        refused(RANGE, "slow", 0, READ, 0, 0, MIN);
        refused(RANGE, "slow", 0, READ, 0, 0, MAX);
        due(1, "slow", 0, READ, 0, 0, 1);
        due(2, "slow", 0, READ, 0, 0, 1000);
    }

    private static void full() {
        sentence("how many, 30 at most");
        make("station", 5, 9, 1);
        for (int i = 1; i <= 30; i++) {
            due(i, "slow", 0, i % 3, i, i, 1);
            due(i, "count", 2);
        }
        refused(FULL, "slow", 0, READ, 0, 0, 1);
        due(30, "count", 2);
        due(0, "count", 1);
        sentence("NONE and RANGE are ahead of FULL");
        make("station", 5, 9, 1);
        makeAll(30, "slow", 0, READ, 0, 0, 1);
        refused(NONE, "slow", 1, READ, 0, 0, 1);
        refused(RANGE, "slow", 0, 3, 0, 0, 1);
        refused(RANGE, "slow", 0, READ, -1, 0, 1);
        refused(RANGE, "slow", 0, READ, 1, 0, 1);
        refused(RANGE, "slow", 0, READ, 0, 0, 1001);
        sentence("30 FAULTS leave room for 30 of SLOWNESS");
        make("station", 5, 9, 1);
        makeAll(30, "fault", 0, READ, 0, 0, LINE);
        due(1, "slow", 0, READ, 0, 0, 1);
    }

    private static void whenItCounts() {
        sentence("whose a .. b has t: a and b themselves, not the seconds beside them");
        make("station", 5, 9, 2);
        make("slow", 0, READ, 2, 3, 7);
        make("tower");
        int[] ends = {2, 3, 2 + 9, 3 + 9, 6, 7};
        for (int i = 0; i < 6; i++) {
            make("order", 0, 0, READ, 0, 0);
            make("second", 1);
        }
        make("second", 20);
        for (int i = 0; i < 6; i++) {
            due(ends[i], "of", i, 3);
        }
        sentence("SLOWNESS of second 0 alone, and from the greatest second on");
        make("station", 5, 9, 2);
        make("slow", 0, READ, 0, 0, 7);
        make("slow", 0, READ, MAX, MAX, 7);
        make("tower");
        make("order", 0, 0, READ, 0, 0);
        make("second", 1);
        make("order", 0, 0, READ, 0, 0);
        make("second", 20);
        due(9, "of", 0, 3);
        due(3, "of", 1, 3);
        sentence("of its STATION and ACT alone");
        make("station", 5, 9, 1);
        make("station", 5, 9, 1);
        make("slow", 1, TAKE, 0, 9, 3);
        make("tower");
        make("order", 0, 1, TAKE, 1, 0);
        make("order", 0, 1, GIVE, 1, 0);
        make("order", 0, 1, READ, 0, 0);
        make("order", 0, 0, TAKE, 1, 0);
        due(3, "second", 1);
        due(0, "outcome", 0);
        due(1, "second", 3);
        due(4, "of", 0, 3);
        sentence("of the STATION of the TRY: that of a FALLBACK, not that of its ORDER");
        make("station", 5, 9, 1);
        make("station", 5, 9, 1);
        make("guard", FALLBACK, 1, 1, 0, ANY);
        tower(0);
        make("slow", 0, TAKE, 1, 9, 7);
        make("slow", 1, TAKE, 1, 1, 3);
        make("fault", 0, TAKE, 1, 1, LINE);
        make("order", 0, 0, TAKE, 1, 0);
        due(0, "second", 4);
        due(1, "second", 1);
        sentence("SLOWNESS that is told while the TRY is UNDER WAY does not count");
        make("station", 5, 9, 2);
        make("tower");
        make("order", 0, 0, READ, 0, 0);
        make("slow", 0, READ, 0, 9, 3);
        due(1, "second", 2);
    }

    private static void howLong() {
        sentence("the seconds of all SLOWNESS");
        make("station", 5, 9, 1);
        make("slow", 0, READ, 0, 0, 1);
        make("slow", 0, READ, 0, 5, 2);
        make("slow", 0, READ, 1, 5, 4);
        make("slow", 0, READ, 0, 0, 8);
        make("tower");
        make("order", 0, 0, READ, 0, 0);
        due(0, "second", 11);
        due(1, "second", 1);
        sentence("1000 seconds");
        make("station", 5, 9, 1);
        make("slow", 0, READ, 0, 0, 1000);
        make("tower");
        make("order", 0, 0, READ, 0, 0);
        seconds(1000);
        due(0, "outcome", 0);
        due(1, "second", 1);
        sentence("30 times 1000 seconds and a DELAY of 100");
        make("station", 5, 9, 100);
        makeAll(30, "slow", 0, READ, 0, 0, 1000);
        make("tower");
        make("order", 0, 0, READ, 0, 0);
        seconds(30099);
        due(0, "outcome", 0);
        due(1, "second", 1);
        due(30100, "of", 0, 3);
    }
}
