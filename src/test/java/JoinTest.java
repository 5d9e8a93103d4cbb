/** Promise 26 and the JOIN of part 3. */
public final class JoinTest {
    private static final Due due = new Due("JoinTest");

    public static void main(String[] args) {
        joinsAlike();
        othersLead();
        endsWithTheFailure();
        leaderTakenBack();
        joinedTakenBack();
        behindAllThatComesOfIt();
        leadsAgain();
        due.done();
    }

    private static WaterWorks works() {
        WaterWorks x = new WaterWorks();
        x.station(50, 100, 3);
        x.station(50, 100, 3);
        x.guard(8, 0, 0, 0, 0);
        Due.tower(x, 0);
        return x;
    }

    private static void joinsAlike() {
        WaterWorks x = works();
        x.guard(3, 9, 0, 0, 0);
        Due.tower(x, 1, 0);
        x.order(0, 0, 1, 5, 3);
        x.order(1, 0, 1, 5, 0);
        x.second(1);
        x.order(0, 0, 1, 5, 9);
        due.are(Due.call(x, 3), Due.row(1, 1, 2, 0, -1, 0, -1, 0, -1, -1, 3), "JOINED, from another tower");
        due.are(Due.row(x.call(0, 10), x.call(4, 10)), Due.row(0, 3), "one leads");
        due.are(Due.row(x.joined(0, 0), x.joined(0, 1), x.joined(0, 2), x.joined(0, -1)), Due.row(3, 4, -1, -1), "by number");
        due.are(Due.row(x.joined(3, 0), x.joined(-1, 0), x.joined(5, 0), x.joined(1, 0)), Due.row(-1, -1, -1, -1), "to no other");
        due.is(x.second(2), 3, "all END");
        due.are(Due.order(x, 0), Due.row(1, 5, -1, 0, 3), "the first");
        due.are(Due.order(x, 1), Due.row(1, 5, -1, 0, 3), "the second");
        due.are(Due.order(x, 2), Due.row(1, 5, -1, 1, 3), "the third");
        due.are(Due.row(x.count(8), x.level(0), x.joined(0, 0)), Due.row(1, 45, -1), "water moved once");
        due.is(x.call(3, 10), 0, "JOINED no more");
    }

    private static void othersLead() {
        WaterWorks x = works();
        x.guard(8, 0, 0, 0, 0);
        Due.tower(x, 1);
        x.order(0, 0, 1, 5, 0);
        x.order(0, 1, 1, 5, 0);
        x.order(0, 0, 2, 5, 0);
        x.order(0, 0, 1, 6, 0);
        x.order(1, 0, 1, 5, 0);
        due.is(x.count(10), 5, "another STATION, ACT, v or GUARD");
        x.order(1, 0, 1, 5, 0);
        due.is(x.joined(8, 0), 10, "each GUARD its own");
    }

    private static void endsWithTheFailure() {
        WaterWorks x = works();
        x.order(0, 0, 1, 70, 0);
        x.order(0, 0, 1, 70, 0);
        due.is(x.second(3), 2, "both END");
        due.are(Due.row(x.of(0, 1), x.of(1, 1), x.count(7)), Due.row(0, 0, 1), "the same FAILURE");
    }

    private static void leaderTakenBack() {
        WaterWorks x = works();
        x.order(0, 0, 1, 7, 0);
        x.order(0, 0, 1, 7, 0);
        x.order(0, 0, 1, 7, 0);
        x.order(0, 0, 0, 0, 0);
        x.second(1);
        due.is(x.cancel(0), 2, "the one that LEADS and its TRY");
        due.are(Due.order(x, 1), Due.row(2, -1, 0, 0, 1), "one JOINED");
        due.are(Due.order(x, 2), Due.row(2, -1, 1, 0, 1), "the other one, a FAILURE each");
        due.are(Due.failure(x, 0), Due.row(13, 1, 0, -1, -1, -1), "GONE");
        due.are(Due.failure(x, 1), Due.row(13, 1, 0, -1, -1, -1), "GONE, too");
        due.are(Due.row(x.outcome(0), x.outcome(3), x.level(0)), Due.row(4, 0, 50), "the others");
        due.is(x.second(9), 1, "only the last ENDS by a second");
    }

    private static void joinedTakenBack() {
        WaterWorks x = works();
        x.order(0, 0, 1, 7, 0);
        x.order(0, 0, 1, 7, 0);
        x.order(0, 0, 1, 7, 0);
        due.is(x.cancel(1), 1, "one JOINED");
        due.are(Due.row(x.joined(0, 0), x.joined(0, 1)), Due.row(3, -1), "the other one stays");
        due.is(x.second(3), 2, "two END");
        due.are(Due.row(x.outcome(1), x.count(7)), Due.row(4, 0), "cancelled");
    }

    /** TRANSLATORS around each one: the numbers of their FAILURES tell who came first. */
    private static void behindAllThatComesOfIt() {
        WaterWorks x = works();
        x.guard(9, 0, 15, 0, 0);
        x.guard(9, 0, 14, 0, 0);
        x.guard(9, 0, 13, 0, 0);
        x.fault(0, 0, 0, 9, 2);
        Due.tower(x, 1, 0);
        Due.tower(x, 2, 0);
        Due.tower(x, 3, 0);
        x.order(2, 0, 0, 0, 0);
        x.order(1, 0, 0, 0, 0);
        x.order(3, 0, 0, 0, 0);
        x.second(3);
        due.are(Due.row(x.failure(0, 0), x.failure(1, 0), x.failure(2, 0), x.failure(3, 0)), Due.row(2, 14, 15, 13),
            "the outer ones of the first, then those of each JOINED one by number");
        due.are(Due.row(x.failure(1, 4), x.failure(2, 4), x.failure(3, 4)), Due.row(0, 0, 0), "of one CAUSE");
    }

    private static void leadsAgain() {
        WaterWorks x = works();
        x.order(0, 0, 0, 0, 0);
        x.second(3);
        x.order(0, 0, 0, 0, 0);
        due.are(Due.row(x.count(10), x.call(2, 10)), Due.row(1, 0), "one that ENDED LEADS no more");
        x.cancel(1);
        x.order(0, 0, 0, 0, 0);
        due.are(Due.row(x.count(10), x.call(4, 10)), Due.row(1, 0), "nor one that was TAKEN BACK");
    }
}
