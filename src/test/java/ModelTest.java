import java.lang.reflect.Method;
import java.util.Arrays;
import java.util.Random;

/** Runs of drawn calls (always the same ones) on the class and on the Model side by side: every answer must be alike. */
public final class ModelTest {
    private static final Due due = new Due("ModelTest");
    private static final int RUNS = 6000, CALLS = 512, SHOWN = 5;
    private static final String[] NAMES = {"station", "fault", "slow", "guard", "on", "tower", "order", "cancel", "second", "plan",
        "stop", "planned", "alarm", "alarmed", "now", "outcome", "of", "failure", "call", "fuse", "bulkhead", "waiting", "tokens",
        "kept", "joined", "level", "effect", "isOf", "count"};

    private static final Method[] WORKS = methodsOf(WaterWorks.class), MODEL = methodsOf(Model.class);
    private static final int[] ODD = {-1, 16, Integer.MIN_VALUE, Integer.MAX_VALUE};

    private final Random random;
    private final WaterWorks works = new WaterWorks();
    private final Model model = new Model();
    private int wrong = 0;

    private ModelTest(long seed) {
        random = new Random(seed);
    }

    public static void main(String[] args) {
        int wrong = 0;
        for (int seed = 0; seed < RUNS && wrong < SHOWN; seed++) {
            ModelTest run = new ModelTest(seed);
            run.play(seed);
            due.is(run.wrong, 0, "wrong answers with seed " + seed);
            wrong += run.wrong;
        }
        due.done();
    }

    private void play(int seed) {
        int built = 20 + random.nextInt(60);
        int busy = 40 + random.nextInt(160);
        for (int i = 0; i < CALLS && wrong == 0; i++) {
            int op = i < built ? builds() : i < built + busy ? steers() : asks();
            int[] n = numbers(op);
            int got = ask(works, WORKS, op, n);
            int want = ask(model, MODEL, op, n);
            if (got != want) {
                wrong++;
                due.is(got, want, "seed " + seed + ", call " + i + ": " + NAMES[op] + Arrays.toString(n));
            }
        }
    }

    private int builds() {
        int[] ops = {0, 1, 2, 3, 3, 3, 3, 4, 4, 4, 4, 4, 4, 5, 5, 12};
        return ops[random.nextInt(ops.length)];
    }

    private int steers() {
        int[] ops = {6, 6, 6, 6, 6, 6, 8, 8, 8, 8, 7, 9, 10, 1, 2, 3, 4, 4, 5, 12, 11, 13, 18, 19, 20, 28};
        return ops[random.nextInt(ops.length)];
    }

    private int asks() {
        int[] ops = {11, 13, 14, 15, 16, 16, 17, 17, 17, 17, 18, 18, 18, 18, 18, 18, 19, 20, 21, 22, 23, 24, 25, 26, 26, 27, 28, 8, 6, 7};
        return ops[random.nextInt(ops.length)];
    }

    private int upTo(int most) {
        return random.nextInt(most + 1);
    }

    /** A number that mostly is one of so many, now and then the first that is not, or an odd one. */
    private int oneOf(int howMany) {
        int luck = random.nextInt(60);
        return luck == 0 ? howMany : luck == 1 ? ODD[random.nextInt(ODD.length)] : howMany == 0 ? 0 : random.nextInt(howMany);
    }

    private int litres(int act) {
        return act == 0 ? (random.nextInt(40) == 0 ? 1 : 0) : upTo(12);
    }

    private int[] numbers(int op) {
        int stations = model.count(0);
        int act = oneOf(3);
        switch (op) {
            case 0: return stationNumbers();
            case 1: return spanNumbers(stations, act, oneOf(8));
            case 2: return spanNumbers(stations, act, random.nextInt(40) == 0 ? 1001 : 1 + upTo(6));
            case 3: return guardNumbers();
            case 4: return new int[] {oneOf(model.count(3))};
            case 6: return new int[] {oneOf(model.count(4)), oneOf(Math.min(stations, 2)), act, litres(act), upTo(1) * oneOf(4)};
            case 7: return new int[] {model.count(5) - 1 - upTo(6)};
            case 8: return new int[] {random.nextInt(30) == 0 ? 101 : upTo(12) == 0 ? 60 : upTo(3)};
            case 9: return planNumbers(stations, act);
            case 10: return new int[] {oneOf(model.count(13))};
            case 11: return new int[] {oneOf(model.count(13)), oneOf(5)};
            case 12: return alarmNumbers();
            case 13: return new int[] {oneOf(10), oneOf(3)};
            case 15: return new int[] {oneOf(model.count(5))};
            case 16: return new int[] {oneOf(model.count(5)), oneOf(4)};
            case 17: return new int[] {oneOf(model.count(7)), oneOf(6)};
            case 18: return new int[] {oneOf(model.count(6)), oneOf(11)};
            case 19: case 20: return new int[] {oneOf(model.count(3)), oneOf(3)};
            case 21: return new int[] {oneOf(model.count(3)), oneOf(4)};
            case 22: return new int[] {oneOf(model.count(3))};
            case 23: return new int[] {oneOf(model.count(3)), oneOf(stations), oneOf(2)};
            case 24: return new int[] {oneOf(model.count(6)), oneOf(2)};
            case 25: return new int[] {oneOf(stations)};
            case 26: return new int[] {oneOf(model.count(8)), oneOf(5)};
            case 27: return new int[] {oneOf(16), oneOf(16)};
            case 28: return new int[] {oneOf(15)};
            default: return new int[0];
        }
    }

    private int[] stationNumbers() {
        int capacity = upTo(60);
        return new int[] {random.nextInt(30) == 0 ? capacity + 1 : upTo(capacity), capacity, random.nextInt(30) == 0 ? 0 : 1 + upTo(3)};
    }

    private int[] spanNumbers(int stations, int act, int size) {
        int from = model.now() + upTo(12) - 2;
        return new int[] {oneOf(stations), act, from, from + upTo(8) - (random.nextInt(30) == 0 ? 5 : 0), size};
    }

    private int kind() {
        return random.nextInt(2) == 0 ? 0 : oneOf(16);
    }

    private int[] guardNumbers() {
        int sort = oneOf(10);
        int[] n = {sort, 1 + upTo(3), 0, 0, 0};
        switch (sort) {
            case 0: n[2] = 1 + upTo(5); n[4] = kind(); break;
            case 1: n[2] = upTo(3); break;
            case 2: n[2] = 1 + upTo(1); break;
            case 3: n[1] = 1 + upTo(7); break;
            case 4: n[1] = 2 + upTo(4); n[2] = 1 + upTo(2); n[3] = upTo(1); n[4] = kind(); break;
            case 5: n[1] = 1 + upTo(2); break;
            case 6: n[1] = upTo(1); n[2] = n[1] == 0 ? upTo(99) : oneOf(model.count(0)); n[4] = kind(); break;
            case 7: n[1] = 1 + upTo(5); break;
            case 9: n[1] = 0; n[2] = oneOf(16); n[4] = kind(); break;
            default: n[1] = 0;
        }
        if (random.nextInt(20) == 0) {
            n[1 + upTo(3)] += upTo(2) - 1;
        }
        return n;
    }

    private int[] planNumbers(int stations, int act) {
        int low = upTo(20) - (random.nextInt(30) == 0 ? 25 : 0);
        return new int[] {oneOf(model.count(4)), oneOf(stations), act, litres(act), upTo(8), low, low + upTo(40) - 2};
    }

    private int[] alarmNumbers() {
        int sort = oneOf(4);
        int x = sort == 1 ? oneOf(model.count(0)) : sort == 3 ? oneOf(1) : oneOf(model.count(3));
        return new int[] {sort, x, sort == 0 ? upTo(8) / 8 : sort == 1 ? upTo(30) : upTo(4)};
    }

    /** The methods of a class by the NAMES; those of the Model bear the same. */
    private static Method[] methodsOf(Class<?> asked) {
        Method[] found = new Method[NAMES.length];
        for (Method m : asked.getDeclaredMethods()) {
            int at = Arrays.asList(NAMES).indexOf(m.getName());
            if (at >= 0) {
                found[at] = m;
            }
        }
        return found;
    }

    private static int ask(Object asked, Method[] methods, int op, int[] n) {
        try {
            return (Integer) methods[op].invoke(asked, Arrays.stream(n).boxed().toArray());
        } catch (ReflectiveOperationException e) {
            throw new IllegalStateException(NAMES[op] + Arrays.toString(n), e);
        }
    }
}
