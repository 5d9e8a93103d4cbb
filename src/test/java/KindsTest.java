/** Promise 29: which KIND is OF which. */
public final class KindsTest {
    private static final Due due = new Due("KindsTest");

    public static void main(String[] args) {
        WaterWorks x = new WaterWorks();
        String[] of = {"0", "0 1", "0 1 2", "0 1 3", "0 4", "0 4 5", "0 4 6", "0 4 7", "0 8", "0 8 9", "0 8 10",
            "0 8 11", "0 8 12", "0 8 13", "0 14", "0 14 15"};
        for (int a = 0; a < 16; a++) {
            for (int b = 0; b < 16; b++) {
                int want = java.util.Arrays.asList(of[a].split(" ")).contains(String.valueOf(b)) ? 1 : 0;
                due.is(x.isOf(a, b), want, "isOf(" + a + ", " + b + ")");
            }
        }
        int[] wrong = {-1, 16, Integer.MIN_VALUE, Integer.MAX_VALUE};
        for (int kind : wrong) {
            due.is(x.isOf(kind, 0), WaterWorks.NONE, "isOf(" + kind + ", 0)");
            due.is(x.isOf(0, kind), WaterWorks.NONE, "isOf(0, " + kind + ")");
            due.is(x.isOf(kind, kind), WaterWorks.NONE, "isOf of none");
        }
        due.done();
    }
}
