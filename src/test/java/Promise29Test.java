/** Promise 29, isOf: whether a KIND is OF another one: 1, 0. NONE: a is none, or b is none. */
public final class Promise29Test extends Told {
    /** The KIND that each one is right under, as the document tells it. */
    private static final int[] UNDER = {NONE, ANY, LINE, LINE, ANY, AT_STATION, AT_STATION, AT_STATION, ANY, BY_GUARD, BY_GUARD,
        BY_GUARD, BY_GUARD, BY_GUARD, ANY, PLAN};

    public static void main(String[] args) {
        promise("29, isOf");
        noKind();
        everyPair();
        edges();
        done();
    }

    private static void noKind() {
        int[] wrong = {-1, 16, MIN, MAX};
        for (int kind : wrong) {
            sentence("NONE: a is none: " + kind);
            due(NONE, "isOf", kind, ANY);
            due(NONE, "isOf", kind, WORD);
            sentence("NONE: b is none: " + kind);
            due(NONE, "isOf", ANY, kind);
            due(NONE, "isOf", WORD, kind);
            sentence("NONE: both are none: " + kind);
            due(NONE, "isOf", kind, kind);
        }
    }

    private static void everyPair() {
        for (int a = ANY; a <= WORD; a++) {
            sentence("if it is that, or right under one that is OF it: KIND " + a);
            for (int b = ANY; b <= WORD; b++) {
                boolean is = false;
                for (int at = a; at != NONE; at = UNDER[at]) {
                    is |= at == b;
                }
                due(is ? 1 : 0, "isOf", a, b);
            }
        }
    }

    private static void edges() {
        sentence("every KIND is OF 0, 0 of itself alone");
        for (int kind = ANY; kind <= WORD; kind++) {
            due(1, "isOf", kind, ANY);
            due(kind == ANY ? 1 : 0, "isOf", ANY, kind);
        }
        sentence("right under, and under that; not the other way, nor beside");
        due(1, "isOf", SILENT, LINE);
        due(0, "isOf", LINE, SILENT);
        due(0, "isOf", SILENT, NOISE);
        due(0, "isOf", SILENT, AT_STATION);
        due(1, "isOf", GONE, BY_GUARD);
        due(0, "isOf", GONE, PLAN);
        due(1, "isOf", WORD, PLAN);
        due(0, "isOf", PLAN, WORD);
    }
}
