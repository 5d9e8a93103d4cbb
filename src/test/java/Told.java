import java.lang.reflect.InvocationTargetException;
import java.lang.reflect.Method;
import java.util.ArrayList;
import java.util.Arrays;
import java.util.HashMap;
import java.util.List;
import java.util.Map;

/**
 * What the tests of the promises share. Each sentence of the document is played on a new object; the calls are kept, so
 * that a refused one can be played again beside an object that never heard of it, and the two be asked everything.
 */
abstract class Told {
    static final int NONE = -1, RANGE = -2, FULL = -3, STATE = -4;
    static final int MIN = Integer.MIN_VALUE, MAX = Integer.MAX_VALUE, MOST = 1000000;
    static final int READ = 0, TAKE = 1, GIVE = 2;
    static final int FUSE = 0, BULKHEAD = 1, LIMIT = 2, DEADLINE = 3, RETRY = 4, HEDGE = 5;
    static final int FALLBACK = 6, MEMORY = 7, JOIN = 8, TRANSLATOR = 9;
    static final int ANY = 0, LINE = 1, SILENT = 2, NOISE = 3, AT_STATION = 4, DRY = 5, OVERFULL = 6, BROKEN = 7;
    static final int BY_GUARD = 8, OPEN = 9, CROWDED = 10, SHORT = 11, LATE = 12, GONE = 13, PLAN = 14, WORD = 15;

    /** An object is used for no more calls than these. */
    static final int CALLS = 512;
    private static final int SHOWN = 20;
    private static final Map<String, Method> FACE = face();
    /** What is done behind a refused call, so that what can't be asked for (a FAULT, a number of a GUARD) shows, too. */
    private static final List<Call> AFTERMATH = List.of(new Call("tower"), new Call("guard", JOIN, 0, 0, 0, 0), new Call("on", 0),
        new Call("station", 1, 2, 1), new Call("alarm", 3, 0, 0), new Call("plan", 0, 0, TAKE, 1, 1, 0, MOST),
        new Call("order", 0, 0, TAKE, 1, 0), new Call("order", 0, 0, READ, 0, 0), new Call("second", 3), new Call("tower"));

    private static String promise = "";
    private static String sentence = "";
    private static WaterWorks works = new WaterWorks();
    private static final List<Call> played = new ArrayList<>();
    private static int seen = 0;
    private static int wrong = 0;

    /** One call of the face, with its numbers. */
    private static final class Call {
        final String name;
        final int[] numbers;

        Call(String name, int... numbers) {
            this.name = name;
            this.numbers = numbers;
        }

        int on(WaterWorks object) {
            Object[] given = Arrays.stream(numbers).boxed().toArray();
            try {
                return (Integer) FACE.get(name).invoke(object, given);
            } catch (InvocationTargetException e) {
                throw new IllegalStateException(promise + ", " + sentence + ": " + this + " threw", e.getCause());
            } catch (ReflectiveOperationException e) {
                throw new IllegalStateException(this + " can't be called", e);
            }
        }

        @Override
        public String toString() {
            return name + Arrays.toString(numbers).replace('[', '(').replace(']', ')');
        }
    }

    private static Map<String, Method> face() {
        Map<String, Method> found = new HashMap<>();
        for (Method method : WaterWorks.class.getMethods()) {
            if (method.getDeclaringClass() == WaterWorks.class) {
                found.put(method.getName(), method);
            }
        }
        return found;
    }

    // ---- what a test says

    static void promise(String name) {
        promise = "promise " + name;
        seen = 0;
        wrong = 0;
    }

    /** The next sentence, on a new object. */
    static void sentence(String words) {
        sentence = words;
        works = new WaterWorks();
        played.clear();
    }

    /** A call and the answer that is due. */
    static void due(int want, String name, int... numbers) {
        Call call = new Call(name, numbers);
        check(play(call), want, call.toString());
    }

    /** A call whose answer may be any. */
    static int plain(String name, int... numbers) {
        return play(new Call(name, numbers));
    }

    /** A call that only leads up to what is tested; it must not be refused. */
    static int make(String name, int... numbers) {
        Call call = new Call(name, numbers);
        int answer = play(call);
        holds(answer >= 0, call + " answered " + answer + ", it leads up to the test");
        return answer;
    }

    /** So many calls alike that lead up to what is tested. */
    static void makeAll(int howMany, String name, int... numbers) {
        for (int i = 0; i < howMany; i++) {
            make(name, numbers);
        }
    }

    /** A call that is refused, and changes nothing. */
    static void refused(int want, String name, int... numbers) {
        Call call = new Call(name, numbers);
        List<Call> without = new ArrayList<>(played);
        List<Call> with = new ArrayList<>(played);
        with.add(call);
        check(play(call), want, call.toString());
        compare(without, with, call + " changed");
        without.addAll(AFTERMATH);
        with.addAll(AFTERMATH);
        compare(without, with, call + " changed what comes later:");
    }

    /** The answers with what 0, 1, .. as the last number. */
    static void all(String name, int of, int... want) {
        for (int what = 0; what < want.length; what++) {
            due(want[what], name, of, what);
        }
    }

    /** Outcome, answer, FAILURE, began, ENDED. */
    static void order(int order, int... want) {
        due(want[0], "outcome", order);
        for (int what = 0; what < want.length - 1; what++) {
            due(want[what + 1], "of", order, what);
        }
    }

    /** One answer of several CALLS in a row, from the first on. */
    static void calls(int what, int first, int... want) {
        for (int i = 0; i < want.length; i++) {
            due(want[i], "call", first + i, what);
        }
    }

    static int tower(int... guards) {
        for (int guard : guards) {
            make("on", guard);
        }
        return make("tower");
    }

    /** More SECONDS than one call takes. */
    static void seconds(int n) {
        for (int left = n; left > 0; left -= 100) {
            make("second", Math.min(left, 100));
        }
    }

    static void holds(boolean so, String what) {
        seen++;
        if (!so) {
            wrong++;
            if (wrong <= SHOWN) {
                System.out.println(promise + ", " + sentence + ": " + what);
            }
        }
    }

    static void done() {
        System.out.println(promise + ": " + (wrong == 0 ? seen + " answers, all as due" : wrong + " answers are not as due"));
        if (wrong != 0) {
            System.exit(1);
        }
    }

    // ---- how it is played

    private static void check(int got, int want, String what) {
        holds(got == want, what + " answered " + got + ", due is " + want);
    }

    private static int play(Call call) {
        played.add(call);
        holds(played.size() <= CALLS, "the test itself makes more than " + CALLS + " calls on one object");
        return call.on(works);
    }

    private static void compare(List<Call> without, List<Call> with, String what) {
        List<Call> questions = questions(after(without));
        if (questions.size() != questions(after(with)).size()) {
            holds(false, what + " how much there is");
            return;
        }
        int room = CALLS - with.size();
        holds(room > 0, "the test itself leaves no room to look at what a refused call changed");
        for (int from = 0; room > 0 && from < questions.size(); from += room) {
            WaterWorks one = after(without);
            WaterWorks other = after(with);
            for (Call question : questions.subList(from, Math.min(from + room, questions.size()))) {
                int before = question.on(one);
                int now = question.on(other);
                holds(before == now, what + " " + question + " from " + before + " to " + now);
            }
        }
    }

    private static WaterWorks after(List<Call> calls) {
        WaterWorks object = new WaterWorks();
        for (Call call : calls) {
            call.on(object);
        }
        return object;
    }

    private static int count(WaterWorks object, int what) {
        return new Call("count", what).on(object);
    }

    /** Everything that can be asked of an object that has as much as this one, which is not used again. */
    private static List<Call> questions(WaterWorks object) {
        List<Call> found = new ArrayList<>();
        found.add(new Call("now"));
        for (int what = 0; what < 15; what++) {
            found.add(new Call("count", what));
        }
        int stations = count(object, 0);
        int guards = count(object, 3);
        ask(found, "level", stations, 0);
        ask(found, "outcome", count(object, 5), 0);
        ask(found, "of", count(object, 5), 4);
        ask(found, "call", count(object, 6), 11);
        ask(found, "joined", count(object, 6), 2);
        ask(found, "failure", count(object, 7), 6);
        ask(found, "effect", count(object, 8), 5);
        ask(found, "planned", count(object, 13), 5);
        ask(found, "alarmed", 10, 3);
        ask(found, "fuse", guards, 3);
        ask(found, "bulkhead", guards, 3);
        ask(found, "waiting", guards, 10);
        ask(found, "tokens", guards, 0);
        for (int i = 0; i < guards * stations * 2; i++) {
            found.add(new Call("kept", i / 2 / stations, i / 2 % stations, i % 2));
        }
        return found;
    }

    /** Of so many things so much (0: what takes no second number). */
    private static void ask(List<Call> found, String name, int howMany, int howMuch) {
        for (int i = 0; i < howMany; i++) {
            for (int what = 0; what < howMuch; what++) {
                found.add(new Call(name, i, what));
            }
            if (howMuch == 0) {
                found.add(new Call(name, i));
            }
        }
    }
}
