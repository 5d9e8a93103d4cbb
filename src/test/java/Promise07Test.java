/** Promise 7, tower: the row is a tower (also if it is empty), and empty then: its number. FULL. */
public final class Promise07Test extends Told {
    public static void main(String[] args) {
        promise("7, tower");
        emptyOne();
        rowIsEmptyThen();
        full();
        done();
    }

    private static void emptyOne() {
        sentence("also if it is empty: its ORDERS are a TRY each");
        due(0, "tower");
        make("station", 5, 9, 1);
        make("order", 0, 0, READ, 0, 0);
        all("call", 0, 0, 0, NONE, NONE, 0, 0, NONE, 0, NONE, NONE, 0);
        due(1, "count", 6);
        due(1, "second", 1);
    }

    private static void rowIsEmptyThen() {
        sentence("and empty then");
        make("guard", JOIN, 0, 0, 0, 0);
        make("guard", LIMIT, 1, 1, 0, 0);
        make("station", 5, 9, 1);
        make("on", 0);
        due(1, "count", 12);
        due(0, "tower");
        due(0, "count", 12);
        due(1, "tower");
        make("on", 1);
        due(1, "count", 12);
        due(2, "tower");
        make("order", 0, 0, READ, 0, 0);
        make("order", 1, 0, READ, 0, 0);
        make("order", 2, 0, READ, 0, 0);
        calls(3, 0, 0, NONE, NONE, 1, NONE);
        calls(0, 0, 0, 0, 1, 2, 2);
        sentence("what comes to the row later is not in the tower");
        make("guard", JOIN, 0, 0, 0, 0);
        make("station", 5, 9, 1);
        due(0, "tower");
        make("on", 0);
        make("order", 0, 0, READ, 0, 0);
        due(1, "count", 6);
    }

    private static void full() {
        sentence("its number: from 0 on, 10 at most");
        for (int i = 0; i < 10; i++) {
            due(i, "tower");
            due(i + 1, "count", 4);
        }
        refused(FULL, "tower");
        due(10, "count", 4);
        sentence("FULL: the row stays as it is");
        make("guard", JOIN, 0, 0, 0, 0);
        make("guard", LIMIT, 1, 1, 0, 0);
        makeAll(10, "tower");
        make("on", 0);
        make("on", 1);
        refused(FULL, "tower");
        due(2, "count", 12);
        refused(RANGE, "on", 1);
        sentence("the tenth is a tower");
        make("guard", JOIN, 0, 0, 0, 0);
        make("station", 5, 9, 1);
        makeAll(9, "tower");
        make("on", 0);
        due(9, "tower");
        due(0, "order", 9, 0, READ, 0, 0);
        due(0, "call", 0, 3);
    }
}
