/** Promise 3, fault: how many; NONE; RANGE: act, a below 0, b below a, kind not 1 .. 7; FULL. And when a FAULT counts. */
public final class Promise03Test extends Told {
    public static void main(String[] args) {
        promise("3, fault");
        noStation();
        bounds();
        full();
        whenItCounts();
        whatItDoes();
        done();
    }

    private static void noStation() {
        sentence("NONE: no such STATION, one is there");
        make("station", 5, 9, 1);
        refused(NONE, "fault", -1, READ, 0, 0, LINE);
        refused(NONE, "fault", 1, READ, 0, 0, LINE);
        refused(NONE, "fault", MIN, READ, 0, 0, LINE);
        refused(NONE, "fault", MAX, READ, 0, 0, LINE);
        due(1, "fault", 0, READ, 0, 0, LINE);
        sentence("NONE: no such STATION, all eight are there");
        makeAll(8, "station", 5, 9, 1);
        due(1, "fault", 7, READ, 0, 0, LINE);
        refused(NONE, "fault", 8, READ, 0, 0, LINE);
        sentence("NONE is ahead of RANGE");
        refused(NONE, "fault", 0, 3, -1, -2, 8);
    }

    private static void bounds() {
        sentence("RANGE: act");
        make("station", 5, 9, 1);
        refused(RANGE, "fault", 0, -1, 0, 0, LINE);
        refused(RANGE, "fault", 0, 3, 0, 0, LINE);
        refused(RANGE, "fault", 0, MIN, 0, 0, LINE);
        refused(RANGE, "fault", 0, MAX, 0, 0, LINE);
        due(1, "fault", 0, READ, 0, 0, LINE);
        due(2, "fault", 0, GIVE, 0, 0, LINE);
        sentence("RANGE: a below 0");
        make("station", 5, 9, 1);
        refused(RANGE, "fault", 0, READ, -1, 0, LINE);
        refused(RANGE, "fault", 0, READ, MIN, MAX, LINE);
        due(1, "fault", 0, READ, 0, MAX, LINE);
        sentence("RANGE: b below a");
        make("station", 5, 9, 1);
        refused(RANGE, "fault", 0, READ, 0, -1, LINE);
        refused(RANGE, "fault", 0, READ, 5, 4, LINE);
        refused(RANGE, "fault", 0, READ, MAX, MAX - 1, LINE);
        refused(RANGE, "fault", 0, READ, MAX, MIN, LINE);
        due(1, "fault", 0, READ, 5, 5, LINE);
        due(2, "fault", 0, READ, MAX, MAX, LINE);
        sentence("RANGE: kind not 1 .. 7");
        make("station", 5, 9, 1);
        refused(RANGE, "fault", 0, READ, 0, 0, ANY);
        refused(RANGE, "fault", 0, READ, 0, 0, -1);
        refused(RANGE, "fault", 0, READ, 0, 0, BY_GUARD);
        refused(RANGE, "fault", 0, READ, 0, 0, MIN);
        refused(RANGE, "fault", 0, READ, 0, 0, MAX);
        due(1, "fault", 0, READ, 0, 0, LINE);
        due(2, "fault", 0, READ, 0, 0, BROKEN);
    }

    private static void full() {
        sentence("how many, 30 at most");
        make("station", 5, 9, 1);
        for (int i = 1; i <= 30; i++) {
            due(i, "fault", 0, i % 3, i, i, LINE);
            due(i, "count", 1);
        }
        refused(FULL, "fault", 0, READ, 0, 0, LINE);
        due(30, "count", 1);
        due(0, "count", 2);
        sentence("NONE and RANGE are ahead of FULL");
        make("station", 5, 9, 1);
        makeAll(30, "fault", 0, READ, 0, 0, LINE);
        refused(NONE, "fault", 1, READ, 0, 0, LINE);
        refused(RANGE, "fault", 0, 3, 0, 0, LINE);
        refused(RANGE, "fault", 0, READ, -1, 0, LINE);
        refused(RANGE, "fault", 0, READ, 1, 0, LINE);
        refused(RANGE, "fault", 0, READ, 0, 0, BY_GUARD);
        sentence("the thirtieth counts");
        make("station", 5, 9, 1);
        makeAll(29, "fault", 0, READ, 9, 9, LINE);
        make("fault", 0, READ, 1, 1, NOISE);
        make("tower");
        make("order", 0, 0, READ, 0, 0);
        make("second", 1);
        due(NOISE, "failure", 0, 0);
    }

    /** A READ that ENDS in each second 1 .. 6. */
    private static void readsOfSixSeconds() {
        make("tower");
        for (int i = 0; i < 6; i++) {
            make("order", 0, 0, READ, 0, 0);
            make("second", 1);
        }
    }

    private static void whenItCounts() {
        sentence("whose a .. b has TIME: a and b themselves, not the seconds beside them");
        make("station", 5, 9, 1);
        make("fault", 0, READ, 3, 4, BROKEN);
        readsOfSixSeconds();
        int[] outcomes = {1, 1, 2, 2, 1, 1};
        for (int i = 0; i < 6; i++) {
            due(outcomes[i], "outcome", i);
        }
        sentence("a .. b of one second");
        make("station", 5, 9, 1);
        make("fault", 0, READ, 3, 3, BROKEN);
        readsOfSixSeconds();
        due(1, "outcome", 1);
        due(2, "outcome", 2);
        due(1, "outcome", 3);
        sentence("a FAULT till the greatest second, and one of that second alone");
        make("station", 5, 9, 1);
        make("fault", 0, READ, MAX, MAX, SILENT);
        make("fault", 0, READ, 5, MAX, BROKEN);
        readsOfSixSeconds();
        due(1, "outcome", 3);
        due(2, "outcome", 4);
        due(2, "outcome", 5);
        due(BROKEN, "failure", 0, 0);
        sentence("the second in which the TRY ENDS counts, not that in which it BEGINS");
        make("station", 5, 9, 3);
        make("fault", 0, READ, 0, 2, BROKEN);
        make("fault", 0, READ, 4, 4, NOISE);
        make("tower");
        make("order", 0, 0, READ, 0, 0);
        make("second", 1);
        make("order", 0, 0, READ, 0, 0);
        due(2, "second", 3);
        order(0, 1, 5, NONE, 0, 3);
        order(1, 2, NONE, 0, 1, 4);
        sentence("a FAULT that is told while the TRY is UNDER WAY counts");
        make("station", 5, 9, 2);
        make("tower");
        make("order", 0, 0, READ, 0, 0);
        make("second", 1);
        make("fault", 0, READ, 2, 2, BROKEN);
        make("second", 1);
        due(2, "outcome", 0);
    }

    private static void whatItDoes() {
        sentence("of its STATION and ACT alone");
        make("station", 5, 9, 1);
        make("station", 5, 9, 1);
        make("fault", 1, TAKE, 0, 9, BROKEN);
        make("tower");
        make("order", 0, 1, TAKE, 1, 0);
        make("order", 0, 1, GIVE, 1, 0);
        make("order", 0, 1, READ, 0, 0);
        make("order", 0, 0, TAKE, 1, 0);
        due(4, "second", 1);
        due(2, "outcome", 0);
        due(1, "outcome", 1);
        due(1, "outcome", 2);
        due(1, "outcome", 3);
        sentence("the KIND of the first such");
        make("station", 5, 9, 1);
        make("fault", 0, READ, 2, 9, LINE);
        make("fault", 0, READ, 1, 9, NOISE);
        make("fault", 0, READ, 0, 9, SILENT);
        readsOfSixSeconds();
        due(NOISE, "failure", 0, 0);
        due(LINE, "failure", 1, 0);
        for (int kind = LINE; kind <= BROKEN; kind++) {
            sentence("a FAILURE of KIND " + kind + " and its STATION; nothing moves");
            make("station", 5, 9, 1);
            make("station", 5, 9, 1);
            make("fault", 1, TAKE, 1, 1, kind);
            make("tower");
            make("order", 0, 1, TAKE, 1, 4);
            due(1, "second", 1);
            all("failure", 0, kind, 1, NONE, 1, NONE, NONE);
            due(5, "level", 1);
            due(0, "count", 8);
        }
        sentence("the STATION of the TRY: that of a FALLBACK, not that of its ORDER");
        make("station", 5, 9, 1);
        make("station", 5, 9, 1);
        make("guard", FALLBACK, 1, 1, 0, ANY);
        tower(0);
        make("fault", 0, TAKE, 1, 1, LINE);
        make("fault", 0, TAKE, 2, 2, SILENT);
        make("fault", 1, TAKE, 2, 2, NOISE);
        make("order", 0, 0, TAKE, 1, 0);
        due(1, "second", 2);
        all("failure", 1, NOISE, 2, NONE, 1, 0, NONE);
        sentence("a FAULT is ahead of what its ACT does: TAKE too much is not DRY");
        make("station", 5, 9, 1);
        make("fault", 0, TAKE, 1, 1, NOISE);
        make("tower");
        make("order", 0, 0, TAKE, 6, 0);
        make("second", 1);
        due(NOISE, "failure", 0, 0);
        due(1, "count", 7);
        sentence("a FAULT is ahead of a KEY that has an EFFECT");
        make("station", 5, 9, 1);
        make("fault", 0, TAKE, 2, 2, NOISE);
        make("tower");
        make("order", 0, 0, TAKE, 1, 8);
        make("second", 1);
        make("order", 0, 0, TAKE, 1, 8);
        make("second", 1);
        due(2, "outcome", 1);
    }
}
