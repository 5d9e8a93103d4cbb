import java.util.ArrayList;
import java.util.HashMap;
import java.util.List;
import java.util.Map;
import java.util.function.Predicate;

/**
 * The document once more, as plainly as can be and built in another way than the class (a class for each sort of guard,
 * every list looked through whole, states found anew each time), so that ModelTest can hold the two side by side.
 */
final class Model {
    static final int NONE = -1, RANGE = -2, FULL = -3, STATE = -4;
    private static final int[] PARENT = {-1, 0, 1, 1, 0, 4, 4, 4, 0, 8, 8, 8, 8, 8, 0, 14};

    private final List<int[]> stations = new ArrayList<>();      // level, capacity, delay
    private final List<int[]> faults = new ArrayList<>();
    private final List<int[]> slows = new ArrayList<>();
    private final List<Guard> guards = new ArrayList<>();
    private List<Guard> row = new ArrayList<>();
    private final List<List<Guard>> towers = new ArrayList<>();
    private final List<Order> orders = new ArrayList<>();
    private final List<Call> calls = new ArrayList<>();
    private final List<Failure> failures = new ArrayList<>();
    private final List<int[]> effects = new ArrayList<>();       // station, order, key, litres, second
    private final List<Plan> plans = new ArrayList<>();
    private final List<Alarm> alarms = new ArrayList<>();
    private int time = 0;

    private static final class Order {
        int tower, station, act, v, key, began, ended = NONE, outcome = 0, answer = NONE;
        Failure failure = null;
    }

    private static final class Failure {
        int number, kind, second, guard = NONE, station = NONE;
        Failure cause = null, under = null;
    }

    private static final class Plan {
        int tower, station, act, v, every, low, high, since, made, latest = NONE, missed, passed;
        boolean on = true;
    }

    private static final class Alarm {
        int sort, x, y, rings, latest = NONE;
        boolean on = false;
    }

    /** How a call ended; a null failure is GOOD. */
    private record End(int answer, boolean spare, Failure failure) {
    }

    private static final class Call {
        int number, order, depth, began, ended = NONE, how = 0, station = NONE, due = NONE, resume = NONE;
        Call parent = null, leader = null;
        Guard guard = null;
        boolean leads = false, waits = false;
        End end = null;
        final List<Call> inner = new ArrayList<>();
    }

    private abstract class Guard {
        int number, sort, a, b, c, named;

        abstract void begins(Call call);

        void innerEnds(Call call, Call inner) {
            finish(call, inner.end);
        }

        void takenBack(Call call) {
        }

        boolean names(End end) {
            return end.failure != null && isOf(end.failure.kind, named) == 1;
        }

        void refuse(Call call, int kind) {
            finish(call, new End(NONE, false, fail(kind, number, NONE)));
        }

        void goIn(Call call) {
            beginCall(call.order, call);
        }
    }

    private final class Fuse extends Guard {
        String state = "CLOSED";
        int count = 0, until = 0;
        Call trial = null;

        void begins(Call call) {
            if (state.equals("CLOSED")) {
                goIn(call);
            } else if (state.equals("OPEN") && time >= until) {
                state = "TRYING";
                trial = call;
                goIn(call);
            } else {
                refuse(call, 9);
            }
        }

        @Override
        void innerEnds(Call call, Call inner) {
            boolean bad = names(inner.end);
            if (call == trial) {
                state = bad ? "OPEN" : "CLOSED";
                until = bad ? time + b : until;
                count = bad ? count : 0;
            } else if (state.equals("CLOSED") && bad) {
                count++;
                if (count == a) {
                    state = "OPEN";
                    until = time + b;
                }
            } else if (state.equals("CLOSED")) {
                count = 0;
            }
            finish(call, inner.end);
        }

        @Override
        void takenBack(Call call) {
            if (call == trial) {
                state = "OPEN";
                until = time;
            }
        }
    }

    private final class Bulkhead extends Guard {
        final List<Call> work = new ArrayList<>(), queue = new ArrayList<>();
        int refused = 0;

        void begins(Call call) {
            if (work.size() < a && queue.isEmpty()) {
                work.add(call);
                goIn(call);
            } else if (queue.size() < b) {
                queue.add(call);
                call.waits = true;
            } else {
                refused++;
                refuse(call, 10);
            }
        }

        @Override
        void innerEnds(Call call, Call inner) {
            work.remove(call);
            finish(call, inner.end);
        }

        @Override
        void takenBack(Call call) {
            work.remove(call);
            queue.remove(call);
        }

        void admit() {
            while (work.size() < a && !queue.isEmpty()) {
                Call call = queue.remove(0);
                call.waits = false;
                work.add(call);
                goIn(call);
            }
        }
    }

    private final class Limit extends Guard {
        int tokens;

        void begins(Call call) {
            if (tokens == 0) {
                refuse(call, 11);
            } else {
                tokens--;
                goIn(call);
            }
        }
    }

    private final class Deadline extends Guard {
        void begins(Call call) {
            call.due = time + a;
            goIn(call);
        }
    }

    private final class Retry extends Guard {
        void begins(Call call) {
            goIn(call);
        }

        @Override
        void innerEnds(Call call, Call inner) {
            int tries = call.inner.size();
            if (names(inner.end) && tries < a) {
                int pause = b;
                for (int i = 1; c == 1 && i < tries; i++) {
                    pause *= 2;
                }
                call.resume = time + pause;
                return;
            }
            if (inner.end.failure != null) {
                for (Call before : call.inner) {
                    Failure f = before.end.failure;
                    if (f != null && f != inner.end.failure && f.under == null) {
                        f.under = inner.end.failure;
                    }
                }
            }
            finish(call, inner.end);
        }
    }

    private final class Hedge extends Guard {
        void begins(Call call) {
            call.due = time + a;
            goIn(call);
        }

        @Override
        void innerEnds(Call call, Call inner) {
            List<Call> others = new ArrayList<>(call.inner);
            others.remove(inner);
            if (inner.end.failure == null) {
                for (Call other : others) {
                    if (other.how == 0) {
                        takeBack(c -> within(c, other));
                    }
                }
                finish(call, inner.end);
                return;
            }
            End end = inner.end;
            for (Call other : others) {
                if (other.how == 0) {
                    return;
                }
                if (other.how == 2) {
                    if (end.failure != other.end.failure && end.failure.under == null) {
                        end.failure.under = other.end.failure;
                    }
                    end = other.end;
                }
            }
            finish(call, end);
        }
    }

    private final class Fallback extends Guard {
        void begins(Call call) {
            goIn(call);
        }

        @Override
        void innerEnds(Call call, Call inner) {
            if (call.inner.size() == 2) {
                if (inner.end.failure == null) {
                    finish(call, new End(inner.end.answer, true, null));
                } else {
                    inner.end.failure.cause = call.inner.get(0).end.failure;
                    finish(call, inner.end);
                }
            } else if (!names(inner.end)) {
                finish(call, inner.end);
            } else if (a == 0) {
                finish(call, new End(b, true, null));
            } else {
                beginTry(newCall(call.order, call), b);
            }
        }
    }

    private final class Memory extends Guard {
        final Map<Integer, End> answers = new HashMap<>();
        final Map<Integer, Integer> seconds = new HashMap<>();

        void begins(Call call) {
            int station = orders.get(call.order).station;
            boolean read = orders.get(call.order).act == 0;
            if (read && answers.containsKey(station) && time - seconds.get(station) <= a) {
                finish(call, answers.get(station));
            } else {
                goIn(call);
            }
        }

        @Override
        void innerEnds(Call call, Call inner) {
            if (orders.get(call.order).act == 0 && inner.end.failure == null) {
                answers.put(orders.get(call.order).station, inner.end);
                seconds.put(orders.get(call.order).station, time);
            }
            finish(call, inner.end);
        }
    }

    private final class Join extends Guard {
        void begins(Call call) {
            Order mine = orders.get(call.order);
            for (Call other : new ArrayList<>(calls)) {
                Order its = orders.get(other.order);
                if (other.guard == this && other.leads && other.how == 0 && its.station == mine.station && its.act == mine.act
                    && its.v == mine.v) {
                    call.leader = other;
                    return;
                }
            }
            call.leads = true;
            goIn(call);
        }

        @Override
        void innerEnds(Call call, Call inner) {
            finish(call, inner.end);
            for (Call other : new ArrayList<>(calls)) {
                if (other.leader == call && other.how == 0) {
                    finish(other, inner.end);
                }
            }
        }

        @Override
        void takenBack(Call call) {
            for (Call other : new ArrayList<>(calls)) {
                if (call.leads && other.leader == call && other.how == 0) {
                    refuse(other, 13);
                }
            }
        }
    }

    private final class Translator extends Guard {
        void begins(Call call) {
            goIn(call);
        }

        @Override
        void innerEnds(Call call, Call inner) {
            if (!names(inner.end)) {
                finish(call, inner.end);
                return;
            }
            Failure f = fail(b, number, NONE);
            f.cause = inner.end.failure;
            finish(call, new End(NONE, false, f));
        }
    }

    // ---- calls

    private Failure fail(int kind, int guard, int station) {
        Failure f = new Failure();
        f.number = failures.size();
        f.kind = kind;
        f.second = time;
        f.guard = guard;
        f.station = station;
        failures.add(f);
        return f;
    }

    private Call newCall(int order, Call parent) {
        Call call = new Call();
        call.number = calls.size();
        call.order = order;
        call.parent = parent;
        call.depth = parent == null ? 0 : parent.depth + 1;
        call.began = time;
        calls.add(call);
        if (parent != null) {
            parent.inner.add(call);
        }
        return call;
    }

    private void beginCall(int order, Call parent) {
        Call call = newCall(order, parent);
        List<Guard> tower = towers.get(orders.get(order).tower);
        if (call.depth == tower.size()) {
            beginTry(call, orders.get(order).station);
        } else {
            call.guard = tower.get(call.depth);
            call.guard.begins(call);
        }
    }

    private void beginTry(Call call, int station) {
        call.station = station;
        call.due = time + stations.get(station)[2];
        for (int[] s : slows) {
            call.due += s[0] == station && s[1] == orders.get(call.order).act && s[2] <= time && time <= s[3] ? s[4] : 0;
        }
    }

    private void finish(Call call, End end) {
        call.how = end.failure == null ? 1 : 2;
        call.ended = time;
        call.end = end;
        if (call.parent != null) {
            call.parent.guard.innerEnds(call.parent, call);
            return;
        }
        Order order = orders.get(call.order);
        order.ended = time;
        order.outcome = end.failure != null ? 2 : end.spare ? 3 : 1;
        order.answer = end.failure != null ? NONE : end.answer;
        order.failure = end.failure;
    }

    private static boolean within(Call call, Call outer) {
        for (Call at = call; at != null; at = at.parent) {
            if (at == outer) {
                return true;
            }
        }
        return false;
    }

    private int takeBack(Predicate<Call> which) {
        List<Call> taken = new ArrayList<>();
        for (Call call : calls) {
            if (call.how == 0 && which.test(call)) {
                taken.add(call);
            }
        }
        for (Call call : taken) {
            call.how = 3;
            call.ended = time;
        }
        for (Call call : taken) {
            if (call.guard != null) {
                call.guard.takenBack(call);
            }
        }
        return taken.size();
    }

    private void endTry(Call call) {
        Order order = orders.get(call.order);
        int[] station = stations.get(call.station);
        for (int[] f : faults) {
            if (f[0] == call.station && f[1] == order.act && f[2] <= time && time <= f[3]) {
                finish(call, new End(NONE, false, fail(f[4], NONE, call.station)));
                return;
            }
        }
        if (order.act == 0) {
            finish(call, new End(station[0], false, null));
            return;
        }
        for (int[] e : effects) {
            if (order.key != 0 && e[0] == call.station && e[2] == order.key) {
                finish(call, new End(e[3] < 0 ? -e[3] : e[3], false, null));
                return;
            }
        }
        if (order.act == 1 && station[0] < order.v) {
            finish(call, new End(NONE, false, fail(5, NONE, call.station)));
        } else if (order.act == 2 && station[0] + order.v > station[1]) {
            finish(call, new End(NONE, false, fail(6, NONE, call.station)));
        } else {
            int litres = order.act == 1 ? -order.v : order.v;
            station[0] += litres;
            effects.add(new int[] {call.station, call.order, order.key, litres, time});
            finish(call, new End(order.v, false, null));
        }
    }

    // ---- a second

    private void tick() {
        time++;
        for (Guard g : guards) {
            if (g instanceof Limit l) {
                l.tokens = Math.min(l.a, l.tokens + l.b);
            }
        }
        for (Call call : new ArrayList<>(calls)) {
            if (call.how == 0 && call.guard == null && call.due == time) {
                endTry(call);
            }
        }
        for (Call call : new ArrayList<>(calls)) {
            if (call.how == 0 && call.guard instanceof Deadline d && call.due == time) {
                takeBack(c -> c != call && within(c, call));
                if (call.how == 0) {
                    d.refuse(call, 12);
                }
            }
        }
        for (Call call : new ArrayList<>(calls)) {
            if (call.how == 0 && call.guard instanceof Hedge && call.due == time && call.inner.get(0).how == 0) {
                call.guard.goIn(call);
            }
        }
        for (Call call : new ArrayList<>(calls)) {
            if (call.how == 0 && call.guard instanceof Retry && call.resume == time) {
                call.resume = NONE;
                call.guard.goIn(call);
            }
        }
        for (Guard g : guards) {
            if (g instanceof Bulkhead w) {
                w.admit();
            }
        }
        for (Plan p : plans) {
            lookAtPlan(p);
        }
        for (Alarm al : alarms) {
            boolean so = isSo(al);
            if (so && !al.on) {
                al.rings++;
                al.latest = time;
            }
            al.on = so;
        }
    }

    private void lookAtPlan(Plan p) {
        if (!p.on || time == p.since || (time - p.since) % p.every != 0) {
            return;
        }
        int level = stations.get(p.station)[0];
        if (level < p.low || level > p.high) {
            p.passed++;
        } else if (orders.size() == 60) {
            p.missed++;
        } else {
            p.made++;
            p.latest = beginOrder(p.tower, p.station, p.act, p.v, 0);
        }
    }

    private boolean isSo(Alarm al) {
        switch (al.sort) {
            case 0: return ((Fuse) guards.get(al.x)).state.equals("OPEN");
            case 1: return stations.get(al.x)[0] < al.y;
            case 2: return ((Bulkhead) guards.get(al.x)).queue.size() >= al.y;
            default: return orders.stream().anyMatch(o -> o.outcome == 0 && time - o.began > al.y);
        }
    }

    // ---- the face

    private static boolean has(List<?> list, int i) {
        return i >= 0 && i < list.size();
    }

    private static boolean out(int n, int low, int high) {
        return n < low || n > high;
    }

    int station(int level, int capacity, int delay) {
        if (out(capacity, 0, 1000000) || out(level, 0, capacity) || out(delay, 1, 100)) {
            return RANGE;
        }
        if (stations.size() == 8) {
            return FULL;
        }
        stations.add(new int[] {level, capacity, delay});
        return stations.size() - 1;
    }

    private int span(List<int[]> list, int[] s, int most) {
        if (!has(stations, s[0])) {
            return NONE;
        }
        if (out(s[1], 0, 2) || s[2] < 0 || s[3] < s[2] || out(s[4], 1, most)) {
            return RANGE;
        }
        if (list.size() == 30) {
            return FULL;
        }
        list.add(s);
        return list.size();
    }

    int fault(int station, int act, int a, int b, int kind) {
        return span(faults, new int[] {station, act, a, b, kind}, 7);
    }

    int slow(int station, int act, int a, int b, int seconds) {
        return span(slows, new int[] {station, act, a, b, seconds}, 1000);
    }

    int guard(int sort, int a, int b, int c, int named) {
        if (sort == 6 && a == 1 && !has(stations, b)) {
            return NONE;
        }
        boolean namesOne = sort == 0 || sort == 4 || sort == 6 || sort == 9;
        if (out(named, 0, namesOne ? 15 : 0) || out(c, 0, sort == 4 ? 1 : 0)) {
            return RANGE;
        }
        Guard g;
        switch (sort) {
            case 0: g = out(a, 1, 20) || out(b, 1, 1000) ? null : new Fuse(); break;
            case 1: g = out(a, 1, 10) || out(b, 0, 10) ? null : new Bulkhead(); break;
            case 2: g = out(a, 1, 100) || out(b, 1, 100) ? null : new Limit(); break;
            case 3: g = out(a, 1, 1000) || b != 0 ? null : new Deadline(); break;
            case 4: g = out(a, 2, 6) || out(b, 1, 50) ? null : new Retry(); break;
            case 5: g = out(a, 1, 100) || b != 0 ? null : new Hedge(); break;
            case 6: g = out(a, 0, 1) || out(b, 0, 1000000) ? null : new Fallback(); break;
            case 7: g = out(a, 1, 1000) || b != 0 ? null : new Memory(); break;
            case 8: g = a != 0 || b != 0 ? null : new Join(); break;
            case 9: g = a != 0 || out(b, 0, 15) ? null : new Translator(); break;
            default: g = null;
        }
        if (g == null) {
            return RANGE;
        }
        if (guards.size() == 24) {
            return FULL;
        }
        g.number = guards.size();
        g.sort = sort;
        g.a = a;
        g.b = b;
        g.c = c;
        g.named = named;
        if (g instanceof Limit l) {
            l.tokens = a;
        }
        guards.add(g);
        return g.number;
    }

    int on(int guard) {
        if (!has(guards, guard)) {
            return NONE;
        }
        if (row.stream().anyMatch(g -> g.sort == guards.get(guard).sort)) {
            return RANGE;
        }
        if (row.size() == 5) {
            return FULL;
        }
        row.add(guards.get(guard));
        return row.size();
    }

    int tower() {
        if (towers.size() == 10) {
            return FULL;
        }
        towers.add(row);
        row = new ArrayList<>();
        return towers.size() - 1;
    }

    private int beginOrder(int tower, int station, int act, int v, int key) {
        Order o = new Order();
        o.tower = tower;
        o.station = station;
        o.act = act;
        o.v = v;
        o.key = key;
        o.began = time;
        orders.add(o);
        int number = orders.size() - 1;
        beginCall(number, null);
        return number;
    }

    int order(int tower, int station, int act, int v, int key) {
        if (!has(towers, tower) || !has(stations, station)) {
            return NONE;
        }
        if (out(act, 0, 2) || out(v, 0, act == 0 ? 0 : 1000000) || key < 0) {
            return RANGE;
        }
        return orders.size() == 60 ? FULL : beginOrder(tower, station, act, v, key);
    }

    int cancel(int order) {
        if (!has(orders, order)) {
            return NONE;
        }
        if (orders.get(order).outcome != 0) {
            return STATE;
        }
        orders.get(order).outcome = 4;
        orders.get(order).ended = time;
        return takeBack(c -> c.order == order);
    }

    private int ended() {
        return (int) orders.stream().filter(o -> o.outcome >= 1 && o.outcome <= 3).count();
    }

    int second(int n) {
        if (out(n, 1, 100)) {
            return RANGE;
        }
        int before = ended();
        for (int i = 0; i < n; i++) {
            tick();
        }
        return ended() - before;
    }

    int plan(int tower, int station, int act, int v, int every, int low, int high) {
        if (!has(towers, tower) || !has(stations, station)) {
            return NONE;
        }
        if (out(act, 0, 2) || out(v, 0, act == 0 ? 0 : 1000000) || out(every, 1, 1000) || low < 0 || high < low) {
            return RANGE;
        }
        if (plans.size() == 12) {
            return FULL;
        }
        Plan p = new Plan();
        p.tower = tower;
        p.station = station;
        p.act = act;
        p.v = v;
        p.every = every;
        p.low = low;
        p.high = high;
        p.since = time;
        plans.add(p);
        return plans.size() - 1;
    }

    int stop(int plan) {
        if (!has(plans, plan)) {
            return NONE;
        }
        Plan p = plans.get(plan);
        if (!p.on) {
            return STATE;
        }
        p.on = false;
        return p.made;
    }

    private static int pick(int what, int... answers) {
        return what >= 0 && what < answers.length ? answers[what] : NONE;
    }

    int planned(int plan, int what) {
        if (!has(plans, plan)) {
            return NONE;
        }
        Plan p = plans.get(plan);
        return pick(what, p.made, p.latest, p.missed, p.passed, p.on ? 1 : 0);
    }

    int alarm(int sort, int x, int y) {
        boolean none = sort == 0 && !(has(guards, x) && guards.get(x) instanceof Fuse) || sort == 1 && !has(stations, x)
            || sort == 2 && !(has(guards, x) && guards.get(x) instanceof Bulkhead);
        if (none) {
            return NONE;
        }
        if (out(sort, 0, 3) || out(y, sort == 2 ? 1 : 0, sort == 0 ? 0 : sort == 2 ? 10 : 1000000) || sort == 3 && x != 0) {
            return RANGE;
        }
        if (alarms.size() == 10) {
            return FULL;
        }
        Alarm al = new Alarm();
        al.sort = sort;
        al.x = x;
        al.y = y;
        alarms.add(al);
        return alarms.size() - 1;
    }

    int alarmed(int alarm, int what) {
        if (!has(alarms, alarm)) {
            return NONE;
        }
        Alarm al = alarms.get(alarm);
        return pick(what, al.on ? 1 : 0, al.rings, al.latest);
    }

    int now() {
        return time;
    }

    int outcome(int order) {
        return has(orders, order) ? orders.get(order).outcome : NONE;
    }

    private static int number(Failure f) {
        return f == null ? NONE : f.number;
    }

    int of(int order, int what) {
        if (!has(orders, order)) {
            return NONE;
        }
        Order o = orders.get(order);
        return pick(what, o.answer, number(o.failure), o.began, o.ended);
    }

    int failure(int i, int what) {
        if (!has(failures, i)) {
            return NONE;
        }
        Failure f = failures.get(i);
        return pick(what, f.kind, f.second, f.guard, f.station, number(f.cause), number(f.under));
    }

    int call(int i, int what) {
        if (!has(calls, i)) {
            return NONE;
        }
        Call c = calls.get(i);
        int rests = c.how != 0 ? 0 : c.waits ? 1 : c.resume != NONE ? 2 : c.leader != null ? 3 : 0;
        return pick(what, c.order, c.depth, c.parent == null ? NONE : c.parent.number, c.guard == null ? NONE : c.guard.number,
            c.station, c.began, c.ended, c.how, c.how == 1 ? c.end.answer : NONE, c.how == 2 ? c.end.failure.number : NONE, rests);
    }

    int fuse(int guard, int what) {
        if (!has(guards, guard) || !(guards.get(guard) instanceof Fuse f)) {
            return NONE;
        }
        return pick(what, List.of("CLOSED", "OPEN", "TRYING").indexOf(f.state), f.count, f.until);
    }

    int bulkhead(int guard, int what) {
        if (!has(guards, guard) || !(guards.get(guard) instanceof Bulkhead w)) {
            return NONE;
        }
        return pick(what, w.work.size(), w.queue.size(), w.refused);
    }

    int waiting(int guard, int i) {
        if (!has(guards, guard) || !(guards.get(guard) instanceof Bulkhead w)) {
            return NONE;
        }
        return has(w.queue, i) ? w.queue.get(i).number : NONE;
    }

    int tokens(int guard) {
        return has(guards, guard) && guards.get(guard) instanceof Limit l ? l.tokens : NONE;
    }

    int kept(int guard, int station, int what) {
        if (!has(guards, guard) || !(guards.get(guard) instanceof Memory m) || !m.answers.containsKey(station)) {
            return NONE;
        }
        return pick(what, m.answers.get(station).answer, m.seconds.get(station));
    }

    int joined(int call, int i) {
        if (!has(calls, call)) {
            return NONE;
        }
        List<Call> found = calls.stream().filter(c -> c.how == 0 && c.leader == calls.get(call)).toList();
        return has(found, i) ? found.get(i).number : NONE;
    }

    int level(int station) {
        return has(stations, station) ? stations.get(station)[0] : NONE;
    }

    int effect(int i, int what) {
        return has(effects, i) ? pick(what, effects.get(i)) : NONE;
    }

    int isOf(int a, int b) {
        if (out(a, 0, 15) || out(b, 0, 15)) {
            return NONE;
        }
        return a == b || a != 0 && isOf(PARENT[a], b) == 1 ? 1 : 0;
    }

    int count(int what) {
        int under = (int) calls.stream().filter(c -> c.how == 0).count();
        int tries = (int) calls.stream().filter(c -> c.how == 0 && c.guard == null).count();
        int open = (int) orders.stream().filter(o -> o.outcome == 0).count();
        int ringing = (int) alarms.stream().filter(al -> al.on).count();
        return pick(what, stations.size(), faults.size(), slows.size(), guards.size(), towers.size(), orders.size(), calls.size(),
            failures.size(), effects.size(), under, tries, open, row.size(), plans.size(), ringing);
    }
}
