/** Promise 16, now: TIME. */
public final class Promise16Test extends Told {
    public static void main(String[] args) {
        promise("16, now");
        sentence("TIME is 0 at first");
        due(0, "now");
        sentence("as many more as SECONDS went by");
        make("second", 1);
        due(1, "now");
        make("second", 100);
        due(101, "now");
        make("second", 99);
        due(200, "now");
        sentence("no other call moves it");
        make("station", 50, 100, 1);
        make("guard", JOIN, 0, 0, 0, 0);
        tower(0);
        make("order", 0, 0, READ, 0, 0);
        make("plan", 0, 0, READ, 0, 1, 0, 0);
        make("alarm", 3, 0, 0);
        make("cancel", 0);
        make("stop", 0);
        due(0, "now");
        due(0, "now");
        sentence("a refused second does not move it");
        make("second", 7);
        refused(RANGE, "second", 0);
        refused(RANGE, "second", 101);
        due(7, "now");
        sentence("as far as 512 calls can go");
        seconds(51100);
        due(51100, "now");
        done();
    }
}
