import java.util.ArrayList;

/** A water works that is steered over slow and faulty lines; DOC.md has its promises and the words in capitals. */
public final class WaterWorks {
    public static final int NONE = -1, RANGE = -2, FULL = -3, STATE = -4;

    private static final int MOST_STATIONS = 8, MOST_SPANS = 30, MOST_GUARDS = 24, MOST_IN_TOWER = 5;
    private static final int MOST_TOWERS = 10, MOST_ORDERS = 60, MOST_PLANS = 12, MOST_ALARMS = 10;
    private static final int MOST_LITRES = 1000000;

    private static final int READ = 0, TAKE = 1, LAST_ACT = 2;

    private static final int DRY = 5, OVERFULL = 6, LAST_OF_FAULTS = 7;
    private static final int OPEN = 9, CROWDED = 10, SHORT = 11, LATE = 12, GONE = 13, LAST_KIND = 15;
    /** The KIND that each KIND is right under. */
    private static final int[] RIGHT_ABOVE = {NONE, 0, 1, 1, 0, 4, 4, 4, 0, 8, 8, 8, 8, 8, 0, 14};

    private static final int FUSE = 0, BULKHEAD = 1, LIMIT = 2, DEADLINE = 3, RETRY = 4, HEDGE = 5;
    private static final int FALLBACK = 6, MEMORY = 7, JOIN = 8, TRANSLATOR = 9;
    /** What stands in place of a sort for a CALL behind the last GUARD. */
    private static final int TRY = 10;
    /** The bounds of a GUARD's numbers, by its sort; the lowest c and the lowest KIND that it NAMES are 0. */
    private static final int[] LOWEST_A = {1, 1, 1, 1, 2, 1, 0, 1, 0, 0};
    private static final int[] HIGHEST_A = {20, 10, 100, 1000, 6, 100, 1, 1000, 0, 0};
    private static final int[] LOWEST_B = {1, 0, 1, 0, 1, 0, 0, 0, 0, 0};
    private static final int[] HIGHEST_B = {1000, 10, 100, 0, 50, 0, MOST_LITRES, 0, 0, LAST_KIND};
    private static final int[] HIGHEST_C = {0, 0, 0, 0, 1, 0, 0, 0, 0, 0};
    private static final int[] HIGHEST_NAMED = {LAST_KIND, 0, 0, 0, LAST_KIND, 0, LAST_KIND, 0, 0, LAST_KIND};

    private static final int FUSE_CLOSED = 0, FUSE_OPEN = 1, FUSE_TRYING = 2;
    private static final int UNDER_WAY = 0, GOOD = 1, FAILED = 2, TAKEN_BACK = 3;
    private static final int WAITS = 1, PAUSES = 2, JOINED = 3;
    private static final int ALARM_FUSE = 0, ALARM_LEVEL = 1, ALARM_WAITING = 2, ALARM_SLOW = 3;

    private final ArrayList<Station> stations = new ArrayList<>();
    private final ArrayList<Span> faults = new ArrayList<>();
    private final ArrayList<Span> slowness = new ArrayList<>();
    private final ArrayList<Guard> guards = new ArrayList<>();
    private final ArrayList<Tower> towers = new ArrayList<>();
    private final ArrayList<Order> orders = new ArrayList<>();
    private final ArrayList<Call> calls = new ArrayList<>();
    /** Every CALL UNDER WAY, by number, among some that have ENDED since the latest SECOND began. */
    private final ArrayList<Call> live = new ArrayList<>();
    private final ArrayList<Failure> failures = new ArrayList<>();
    private final ArrayList<Effect> effects = new ArrayList<>();
    private final ArrayList<Plan> plans = new ArrayList<>();
    private final ArrayList<Alarm> alarms = new ArrayList<>();
    /** The row of GUARDS that will be a tower. */
    private Tower row = new Tower();
    private int time = 0;
    private int ordersEnded = 0;
    private int takings = 0;

    public WaterWorks() {
    }

    // ---- what is there: stations, faults, slowness, guards, towers

    public int station(int level, int capacity, int delay) {
        if (!within(capacity, 0, MOST_LITRES) || !within(level, 0, capacity) || !within(delay, 1, 100)) {
            return RANGE;
        }
        if (stations.size() >= MOST_STATIONS) {
            return FULL;
        }
        stations.add(new Station(stations.size(), level, capacity, delay));
        return stations.size() - 1;
    }

    public int fault(int station, int act, int a, int b, int kind) {
        return addSpan(faults, stationAt(station), act, a, b, kind, LAST_OF_FAULTS);
    }

    public int slow(int station, int act, int a, int b, int seconds) {
        return addSpan(slowness, stationAt(station), act, a, b, seconds, 1000);
    }

    private int addSpan(ArrayList<Span> spans, Station station, int act, int a, int b, int size, int most) {
        if (station == null) {
            return NONE;
        }
        if (!within(act, READ, LAST_ACT) || a < 0 || b < a || !within(size, 1, most)) {
            return RANGE;
        }
        if (spans.size() >= MOST_SPANS) {
            return FULL;
        }
        spans.add(new Span(station, act, a, b, size));
        return spans.size();
    }

    public int guard(int sort, int a, int b, int c, int named) {
        if (sort == FALLBACK && a == 1 && stationAt(b) == null) {
            return NONE;
        }
        if (!fitsSort(sort, a, b, c, named)) {
            return RANGE;
        }
        if (guards.size() >= MOST_GUARDS) {
            return FULL;
        }
        guards.add(new Guard(guards.size(), sort, a, b, c, named));
        return guards.size() - 1;
    }

    private static boolean fitsSort(int sort, int a, int b, int c, int named) {
        return sort >= 0 && sort < LOWEST_A.length && sort < HIGHEST_A.length && sort < LOWEST_B.length
            && sort < HIGHEST_B.length && sort < HIGHEST_C.length && sort < HIGHEST_NAMED.length
            && within(a, LOWEST_A[sort], HIGHEST_A[sort]) && within(b, LOWEST_B[sort], HIGHEST_B[sort])
            && within(c, 0, HIGHEST_C[sort]) && within(named, 0, HIGHEST_NAMED[sort]);
    }

    public int on(int guard) {
        Guard added = guardAt(guard);
        if (added == null) {
            return NONE;
        }
        if (row.hasSort(added.sort)) {
            return RANGE;
        }
        if (row.guards.size() >= MOST_IN_TOWER) {
            return FULL;
        }
        row.guards.add(added);
        return row.guards.size();
    }

    public int tower() {
        if (towers.size() >= MOST_TOWERS) {
            return FULL;
        }
        towers.add(row);
        row = new Tower();
        return towers.size() - 1;
    }

    // ---- orders, plans, alarms, seconds

    public int order(int tower, int station, int act, int v, int key) {
        Tower through = towerAt(tower);
        Station at = stationAt(station);
        if (through == null || at == null) {
            return NONE;
        }
        if (!fitsAct(act, v) || key < 0) {
            return RANGE;
        }
        if (orders.size() >= MOST_ORDERS) {
            return FULL;
        }
        return startOrder(new Order(orders.size(), through, at, act, v, key));
    }

    private static boolean fitsAct(int act, int v) {
        return within(act, READ, LAST_ACT) && within(v, 0, act == READ ? 0 : MOST_LITRES);
    }

    private int startOrder(Order order) {
        orders.add(order);
        begin(order, null);
        return order.number;
    }

    public int cancel(int order) {
        Order cancelled = orderAt(order);
        if (cancelled == null) {
            return NONE;
        }
        if (!cancelled.isUnderWay()) {
            return STATE;
        }
        return takeBack(cancelled.first);
    }

    public int second(int n) {
        if (!within(n, 1, 100)) {
            return RANGE;
        }
        int before = ordersEnded;
        for (int i = 0; i < n; i++) {
            passSecond();
        }
        return ordersEnded - before;
    }

    public int plan(int tower, int station, int act, int v, int every, int low, int high) {
        Tower through = towerAt(tower);
        Station at = stationAt(station);
        if (through == null || at == null) {
            return NONE;
        }
        if (!fitsAct(act, v) || !within(every, 1, 1000) || low < 0 || high < low) {
            return RANGE;
        }
        if (plans.size() >= MOST_PLANS) {
            return FULL;
        }
        Plan plan = new Plan(through, at, act, v, every, low, high);
        plan.due = time + every;
        plans.add(plan);
        return plans.size() - 1;
    }

    public int stop(int plan) {
        Plan stopped = planAt(plan);
        if (stopped == null) {
            return NONE;
        }
        if (!stopped.goesOn) {
            return STATE;
        }
        stopped.goesOn = false;
        return stopped.made;
    }

    public int planned(int plan, int what) {
        Plan asked = planAt(plan);
        if (asked == null) {
            return NONE;
        }
        switch (what) {
            case 0: return asked.made;
            case 1: return asked.latest;
            case 2: return asked.missed;
            case 3: return asked.passed;
            case 4: return asked.goesOn ? 1 : 0;
            default: return NONE;
        }
    }

    public int alarm(int sort, int x, int y) {
        if (lacksWatched(sort, x)) {
            return NONE;
        }
        if (!fitsAlarm(sort, x, y)) {
            return RANGE;
        }
        if (alarms.size() >= MOST_ALARMS) {
            return FULL;
        }
        alarms.add(new Alarm(sort, x, y));
        return alarms.size() - 1;
    }

    private boolean lacksWatched(int sort, int x) {
        switch (sort) {
            case ALARM_FUSE: return guardOf(FUSE, x) == null;
            case ALARM_LEVEL: return stationAt(x) == null;
            case ALARM_WAITING: return guardOf(BULKHEAD, x) == null;
            default: return false;
        }
    }

    private static boolean fitsAlarm(int sort, int x, int y) {
        switch (sort) {
            case ALARM_FUSE: return y == 0;
            case ALARM_LEVEL: return within(y, 0, MOST_LITRES);
            case ALARM_WAITING: return within(y, 1, 10);
            case ALARM_SLOW: return x == 0 && within(y, 0, MOST_LITRES);
            default: return false;
        }
    }

    public int alarmed(int alarm, int what) {
        if (alarm < 0 || alarm >= alarms.size()) {
            return NONE;
        }
        Alarm asked = alarms.get(alarm);
        switch (what) {
            case 0: return asked.isOn ? 1 : 0;
            case 1: return asked.rings;
            case 2: return asked.rangAt;
            default: return NONE;
        }
    }

    // ---- what is asked

    public int now() {
        return time;
    }

    public int outcome(int order) {
        Order asked = orderAt(order);
        if (asked == null || asked.first == null) {
            return NONE;
        }
        switch (asked.first.how) {
            case GOOD: return asked.first.byFallback ? 3 : 1;
            case FAILED: return 2;
            case TAKEN_BACK: return 4;
            default: return 0;
        }
    }

    public int of(int order, int what) {
        Order asked = orderAt(order);
        if (asked == null || asked.first == null) {
            return NONE;
        }
        switch (what) {
            case 0: return asked.first.answer;
            case 1: return numberOf(asked.first.failure);
            case 2: return asked.first.began;
            case 3: return asked.first.ended;
            default: return NONE;
        }
    }

    public int failure(int i, int what) {
        if (i < 0 || i >= failures.size()) {
            return NONE;
        }
        Failure asked = failures.get(i);
        switch (what) {
            case 0: return asked.kind;
            case 1: return asked.second;
            case 2: return asked.guard == null ? NONE : asked.guard.number;
            case 3: return asked.station == null ? NONE : asked.station.number;
            case 4: return numberOf(asked.cause);
            case 5: return numberOf(asked.under);
            default: return NONE;
        }
    }

    public int call(int i, int what) {
        if (i < 0 || i >= calls.size()) {
            return NONE;
        }
        Call asked = calls.get(i);
        switch (what) {
            case 0: return asked.order.number;
            case 1: return asked.depth;
            case 2: return asked.parent == null ? NONE : asked.parent.number;
            case 3: return asked.guard == null ? NONE : asked.guard.number;
            case 4: return asked.station == null ? NONE : asked.station.number;
            case 5: return asked.began;
            case 6: return asked.ended;
            case 7: return asked.how;
            case 8: return asked.answer;
            case 9: return numberOf(asked.failure);
            case 10: return asked.how == UNDER_WAY ? asked.rests : 0;
            default: return NONE;
        }
    }

    public int fuse(int guard, int what) {
        Guard asked = guardOf(FUSE, guard);
        if (asked == null) {
            return NONE;
        }
        switch (what) {
            case 0: return asked.state;
            case 1: return asked.counted;
            case 2: return asked.until;
            default: return NONE;
        }
    }

    public int bulkhead(int guard, int what) {
        Guard asked = guardOf(BULKHEAD, guard);
        if (asked == null) {
            return NONE;
        }
        switch (what) {
            case 0: return asked.atWork;
            case 1: return asked.queue.size();
            case 2: return asked.refused;
            default: return NONE;
        }
    }

    public int waiting(int guard, int i) {
        Guard asked = guardOf(BULKHEAD, guard);
        if (asked == null || i < 0 || i >= asked.queue.size()) {
            return NONE;
        }
        return asked.queue.get(i).number;
    }

    public int tokens(int guard) {
        Guard asked = guardOf(LIMIT, guard);
        return asked == null ? NONE : asked.left;
    }

    public int kept(int guard, int station, int what) {
        Guard asked = guardOf(MEMORY, guard);
        Station of = stationAt(station);
        Call source = asked == null || of == null ? null : asked.remembered(of);
        if (source == null) {
            return NONE;
        }
        switch (what) {
            case 0: return source.answer;
            case 1: return source.ended;
            default: return NONE;
        }
    }

    public int joined(int call, int i) {
        if (call < 0 || call >= calls.size() || i < 0) {
            return NONE;
        }
        Call leader = calls.get(call);
        int found = 0;
        for (int k = 0; k < live.size(); k++) {
            Call other = live.get(k);
            if (other.isJoinedTo(leader)) {
                if (found == i) {
                    return other.number;
                }
                found++;
            }
        }
        return NONE;
    }

    public int level(int station) {
        Station asked = stationAt(station);
        return asked == null ? NONE : asked.level;
    }

    public int effect(int i, int what) {
        if (i < 0 || i >= effects.size()) {
            return NONE;
        }
        Effect asked = effects.get(i);
        switch (what) {
            case 0: return asked.station.number;
            case 1: return asked.order.number;
            case 2: return asked.order.key;
            case 3: return asked.litres;
            case 4: return asked.second;
            default: return NONE;
        }
    }

    public int isOf(int a, int b) {
        if (!within(a, 0, LAST_KIND) || !within(b, 0, LAST_KIND)) {
            return NONE;
        }
        return kindIsOf(a, b) ? 1 : 0;
    }

    public int count(int what) {
        switch (what) {
            case 0: return stations.size();
            case 1: return faults.size();
            case 2: return slowness.size();
            case 3: return guards.size();
            case 4: return towers.size();
            case 5: return orders.size();
            case 6: return calls.size();
            case 7: return failures.size();
            case 8: return effects.size();
            case 9: return callsUnderWay();
            case 10: return triesUnderWay();
            case 11: return ordersUnderWay();
            case 12: return row.guards.size();
            case 13: return plans.size();
            case 14: return alarmsOn();
            default: return NONE;
        }
    }

    private int callsUnderWay() {
        int found = 0;
        for (int i = 0; i < live.size(); i++) {
            found += live.get(i).how == UNDER_WAY ? 1 : 0;
        }
        return found;
    }

    private int triesUnderWay() {
        int found = 0;
        for (int i = 0; i < live.size(); i++) {
            found += live.get(i).how == UNDER_WAY && live.get(i).sort() == TRY ? 1 : 0;
        }
        return found;
    }

    private int ordersUnderWay() {
        int found = 0;
        for (int i = 0; i < orders.size(); i++) {
            found += orders.get(i).isUnderWay() ? 1 : 0;
        }
        return found;
    }

    private int alarmsOn() {
        int found = 0;
        for (int i = 0; i < alarms.size(); i++) {
            found += alarms.get(i).isOn ? 1 : 0;
        }
        return found;
    }

    // ---- numbers and what they stand for

    private static boolean within(int n, int low, int high) {
        return n >= low && n <= high;
    }

    private static int numberOf(Failure failure) {
        return failure == null ? NONE : failure.number;
    }

    private Station stationAt(int i) {
        return i >= 0 && i < stations.size() ? stations.get(i) : null;
    }

    private Guard guardAt(int i) {
        return i >= 0 && i < guards.size() ? guards.get(i) : null;
    }

    private Guard guardOf(int sort, int i) {
        Guard found = guardAt(i);
        return found != null && found.sort == sort ? found : null;
    }

    private Tower towerAt(int i) {
        return i >= 0 && i < towers.size() ? towers.get(i) : null;
    }

    private Order orderAt(int i) {
        return i >= 0 && i < orders.size() ? orders.get(i) : null;
    }

    private Plan planAt(int i) {
        return i >= 0 && i < plans.size() ? plans.get(i) : null;
    }

    private static boolean kindIsOf(int kind, int other) {
        int at = kind;
        for (int step = 0; step <= LAST_KIND && at >= 0 && at < RIGHT_ABOVE.length; step++) {
            if (at == other) {
                return true;
            }
            at = RIGHT_ABOVE[at];
        }
        return false;
    }

    // ---- a call begins; a tower has no more than MOST_IN_TOWER guards, so no call is begun deeper than that

    /** Begins the CALL behind the parent (null: the first one of the ORDER). */
    private void begin(Order order, Call parent) {
        int depth = parent == null ? 0 : parent.depth + 1;
        Guard guard = order.tower.guardAtDepth(depth);
        Call call = addCall(order, parent, guard);
        if (guard == null) {
            startTry(call, order.station);
        } else {
            enter(call, guard);
        }
    }

    /** The parent knows of the CALL before that does anything, since it may END at once. */
    private Call addCall(Order order, Call parent, Guard guard) {
        Call call = new Call(calls.size(), order, parent, guard, time);
        calls.add(call);
        live.add(call);
        if (parent == null) {
            order.first = call;
        } else {
            call.before = parent.latest;
            parent.latest = call;
            parent.inners++;
        }
        return call;
    }

    private void startTry(Call call, Station station) {
        int length = station.delay;
        for (int i = 0; i < slowness.size(); i++) {
            if (slowness.get(i).covers(station, call.order.act, time)) {
                length += slowness.get(i).size;
            }
        }
        call.station = station;
        call.due = time + length;
    }

    private void goIn(Call call) {
        begin(call.order, call);
    }

    private void enter(Call call, Guard guard) {
        switch (guard.sort) {
            case FUSE:
                enterFuse(call, guard);
                break;
            case BULKHEAD:
                enterBulkhead(call, guard);
                break;
            case LIMIT:
                enterLimit(call, guard);
                break;
            case DEADLINE:
            case HEDGE:
                call.due = time + guard.a;
                goIn(call);
                break;
            case MEMORY:
                enterMemory(call, guard);
                break;
            case JOIN:
                enterJoin(call, guard);
                break;
            default:
                goIn(call);
        }
    }

    private void enterFuse(Call call, Guard guard) {
        if (guard.state == FUSE_TRYING || guard.state == FUSE_OPEN && time < guard.until) {
            endFailed(call, addFailure(OPEN, guard, null));
            return;
        }
        if (guard.state == FUSE_OPEN) {
            guard.state = FUSE_TRYING;
            guard.trial = call;
        }
        goIn(call);
    }

    private void enterBulkhead(Call call, Guard guard) {
        if (guard.atWork < guard.a && guard.queue.isEmpty()) {
            guard.atWork++;
            goIn(call);
        } else if (guard.queue.size() < guard.b) {
            call.rests = WAITS;
            guard.queue.add(call);
        } else {
            guard.refused++;
            endFailed(call, addFailure(CROWDED, guard, null));
        }
    }

    private void enterLimit(Call call, Guard guard) {
        if (guard.left > 0) {
            guard.left--;
            goIn(call);
        } else {
            endFailed(call, addFailure(SHORT, guard, null));
        }
    }

    private void enterMemory(Call call, Guard guard) {
        Call source = guard.remembered(call.order.station);
        if (call.order.act == READ && source != null && time - source.ended <= guard.a) {
            endGood(call, source.answer, source.byFallback);
        } else {
            goIn(call);
        }
    }

    private void enterJoin(Call call, Guard guard) {
        Call leader = leaderFor(call, guard);
        if (leader == null) {
            call.leads = true;
            goIn(call);
        } else {
            call.rests = JOINED;
            call.leader = leader;
        }
    }

    private Call leaderFor(Call call, Guard guard) {
        for (int i = 0; i < live.size(); i++) {
            Call other = live.get(i);
            if (other.how == UNDER_WAY && other.guard == guard && other.leads && other.order.asksLike(call.order)) {
                return other;
            }
        }
        return null;
    }

    // ---- a try ends

    private void finishTry(Call call) {
        Station station = call.station;
        if (station == null) {
            return;
        }
        for (int i = 0; i < faults.size(); i++) {
            if (faults.get(i).covers(station, call.order.act, time)) {
                endFailed(call, addFailure(faults.get(i).size, null, station));
                return;
            }
        }
        if (call.order.act == READ) {
            endGood(call, station.level, false);
        } else {
            moveWater(call, station);
        }
    }

    private void moveWater(Call call, Station station) {
        Order order = call.order;
        Effect done = effectOf(order.key, station);
        if (done != null) {
            endGood(call, Math.abs(done.litres), false);
            return;
        }
        int litres = order.act == TAKE ? -order.v : order.v;
        int after = station.level + litres;
        if (after < 0) {
            endFailed(call, addFailure(DRY, null, station));
        } else if (after > station.capacity) {
            endFailed(call, addFailure(OVERFULL, null, station));
        } else {
            station.level = after;
            effects.add(new Effect(station, order, litres, time));
            endGood(call, order.v, false);
        }
    }

    private Effect effectOf(int key, Station station) {
        for (int i = 0; key != 0 && i < effects.size(); i++) {
            if (effects.get(i).order.key == key && effects.get(i).station == station) {
                return effects.get(i);
            }
        }
        return null;
    }

    /** A FAILURE of a GUARD has that and no STATION, one of a TRY has its STATION and no GUARD. */
    private Failure addFailure(int kind, Guard guard, Station station) {
        Failure failure = new Failure(failures.size(), kind, time, guard, station);
        failures.add(failure);
        return failure;
    }

    // ---- a call ends and its parent is told. Outward this goes no further than a tower is high; sideways, from
    // ---- one that leads to those joined to it, only once: all calls of an order that join are of one guard and
    // ---- alike, of these one leads at a time, and none begins while calls end.

    private void endGood(Call call, int answer, boolean byFallback) {
        if (call.how == UNDER_WAY) {
            call.how = GOOD;
            call.answer = answer;
            call.byFallback = byFallback;
            finish(call);
        }
    }

    private void endFailed(Call call, Failure failure) {
        if (call.how == UNDER_WAY) {
            call.how = FAILED;
            call.failure = failure;
            finish(call);
        }
    }

    private void endAlike(Call call, Call other) {
        if (other.how == GOOD) {
            endGood(call, other.answer, other.byFallback);
        } else {
            endFailed(call, other.failure);
        }
    }

    private void finish(Call call) {
        call.ended = time;
        if (call.parent == null) {
            ordersEnded++;
        } else {
            tell(call.parent, call);
        }
        if (call.leads) {
            endJoined(call);
        }
    }

    private void endJoined(Call leader) {
        int size = live.size();
        for (int i = 0; i < size && i < live.size(); i++) {
            Call call = live.get(i);
            if (!call.isJoinedTo(leader)) {
                continue;
            }
            if (leader.how == TAKEN_BACK) {
                endFailed(call, addFailure(GONE, call.guard, null));
            } else {
                endAlike(call, leader);
            }
        }
    }

    private void tell(Call call, Call inner) {
        Guard guard = call.guard;
        if (guard == null || call.how != UNDER_WAY) {
            return;
        }
        switch (guard.sort) {
            case FUSE:
                tellFuse(guard, call, inner);
                break;
            case BULKHEAD:
                guard.atWork--;
                endAlike(call, inner);
                break;
            case RETRY:
                tellRetry(guard, call, inner);
                break;
            case HEDGE:
                tellHedge(call, inner);
                break;
            case FALLBACK:
                tellFallback(guard, call, inner);
                break;
            case MEMORY:
                tellMemory(guard, call, inner);
                break;
            case TRANSLATOR:
                tellTranslator(guard, call, inner);
                break;
            default:
                endAlike(call, inner);
        }
    }

    private static boolean names(Guard guard, Failure failure) {
        return failure != null && kindIsOf(failure.kind, guard.named);
    }

    private void tellFuse(Guard guard, Call call, Call inner) {
        boolean named = names(guard, inner.failure);
        if (guard.trial == call) {
            guard.trial = null;
            if (named) {
                openFuse(guard, guard.b);
            } else {
                guard.state = FUSE_CLOSED;
                guard.counted = 0;
            }
        } else if (guard.state == FUSE_CLOSED) {
            guard.counted = named ? guard.counted + 1 : 0;
            if (guard.counted == guard.a) {
                openFuse(guard, guard.b);
            }
        }
        endAlike(call, inner);
    }

    private void openFuse(Guard guard, int seconds) {
        guard.state = FUSE_OPEN;
        guard.until = time + seconds;
    }

    private void tellRetry(Guard guard, Call call, Call inner) {
        if (names(guard, inner.failure) && call.inners < guard.a) {
            call.rests = PAUSES;
            call.due = time + (guard.c == 1 ? guard.b << (call.inners - 1) : guard.b);
            return;
        }
        for (Call earlier = inner.before; inner.failure != null && earlier != null; earlier = earlier.before) {
            suppress(earlier.failure, inner.failure);
        }
        endAlike(call, inner);
    }

    private static void suppress(Failure failure, Failure under) {
        if (failure != null && failure != under && failure.under == null) {
            failure.under = under;
        }
    }

    private void tellHedge(Call call, Call inner) {
        Call other = inner == call.latest ? inner.before : call.latest;
        if (inner.how == GOOD) {
            if (other != null && other.how == UNDER_WAY) {
                takeBack(other);
            }
            endAlike(call, inner);
        } else if (other != null && other.how == FAILED) {
            suppress(inner.failure, other.failure);
            endAlike(call, other);
        } else if (other == null || other.how != UNDER_WAY) {
            endAlike(call, inner);
        }
    }

    private void tellFallback(Guard guard, Call call, Call inner) {
        Call first = inner.before;
        Station spare = stationAt(guard.b);
        if (first != null) {
            tellSpare(call, inner, first);
        } else if (!names(guard, inner.failure)) {
            endAlike(call, inner);
        } else if (guard.a == 0) {
            endGood(call, guard.b, true);
        } else if (spare != null) {
            startTry(addCall(call.order, call, null), spare);
        }
    }

    private void tellSpare(Call call, Call spare, Call first) {
        if (spare.how == GOOD) {
            endGood(call, spare.answer, true);
            return;
        }
        if (spare.failure != null) {
            spare.failure.cause = first.failure;
        }
        endAlike(call, spare);
    }

    private void tellMemory(Guard guard, Call call, Call inner) {
        if (call.order.act == READ && inner.how == GOOD) {
            guard.remember(call.order.station, inner);
        }
        endAlike(call, inner);
    }

    private void tellTranslator(Guard guard, Call call, Call inner) {
        if (names(guard, inner.failure)) {
            Failure told = addFailure(guard.b, guard, null);
            told.cause = inner.failure;
            endFailed(call, told);
        } else {
            endAlike(call, inner);
        }
    }

    // ---- calls are taken back

    /** Takes back a CALL and all UNDER WAY within it; answers how many these were. */
    private int takeBack(Call outermost) {
        takings++;
        int taking = takings;
        int taken = 0;
        int size = live.size();
        for (int i = 0; i < size; i++) {
            Call call = live.get(i);
            boolean inside = call == outermost || call.parent != null && call.parent.taking == taking;
            if (inside && call.how == UNDER_WAY) {
                call.how = TAKEN_BACK;
                call.ended = time;
                call.taking = taking;
                taken++;
            }
        }
        for (int i = 0; i < size && i < live.size(); i++) {
            if (live.get(i).taking == taking) {
                release(live.get(i));
            }
        }
        return taken;
    }

    /** What the GUARD of a CALL does when that has been taken back. */
    private void release(Call call) {
        Guard guard = call.guard;
        if (guard == null) {
            return;
        }
        if (guard.trial == call) {
            guard.trial = null;
            openFuse(guard, 0);
        } else if (guard.sort == BULKHEAD && call.rests == WAITS) {
            guard.leaveQueue(call);
        } else if (guard.sort == BULKHEAD) {
            guard.atWork--;
        } else if (call.leads) {
            endJoined(call);
        }
    }

    // ---- a second

    private void passSecond() {
        time++;
        refillLimits();
        if (sweepLive()) {
            doWhatIsDue(TRY);
            doWhatIsDue(DEADLINE);
            doWhatIsDue(HEDGE);
            doWhatIsDue(RETRY);
        }
        admitWaiting();
        for (int i = 0; i < plans.size(); i++) {
            lookAtPlan(plans.get(i));
        }
        for (int i = 0; i < alarms.size(); i++) {
            lookAtAlarm(alarms.get(i));
        }
    }

    private void refillLimits() {
        for (int i = 0; i < guards.size(); i++) {
            Guard guard = guards.get(i);
            if (guard.sort == LIMIT) {
                guard.left = Math.min(guard.a, guard.left + guard.b);
            }
        }
    }

    /** Drops the CALLS that have ENDED; answers whether one of the others is due, since in most seconds none is. */
    private boolean sweepLive() {
        boolean due = false;
        int stay = 0;
        int size = live.size();
        for (int i = 0; i < size; i++) {
            Call call = live.get(i);
            if (call.how == UNDER_WAY) {
                live.set(stay, call);
                stay++;
                due |= call.due == time;
            }
        }
        for (int i = size - 1; i >= stay; i--) {
            live.remove(i);
        }
        return due;
    }

    private void doWhatIsDue(int sort) {
        int size = live.size();
        for (int i = 0; i < size && i < live.size(); i++) {
            Call call = live.get(i);
            if (call.how != UNDER_WAY || call.due != time || call.sort() != sort) {
                continue;
            }
            if (sort == TRY) {
                finishTry(call);
            } else if (sort == DEADLINE) {
                expire(call);
            } else {
                call.rests = 0;
                goIn(call);
            }
        }
    }

    private void expire(Call call) {
        if (call.latest != null) {
            takeBack(call.latest);
        }
        if (call.how == UNDER_WAY) {
            endFailed(call, addFailure(LATE, call.guard, null));
        }
    }

    private void admitWaiting() {
        for (int i = 0; i < guards.size(); i++) {
            Guard guard = guards.get(i);
            int waited = guard.queue.size();
            for (int k = 0; k < waited && guard.atWork < guard.a && !guard.queue.isEmpty(); k++) {
                Call call = guard.queue.remove(0);
                call.rests = 0;
                guard.atWork++;
                goIn(call);
            }
        }
    }

    private void lookAtPlan(Plan plan) {
        if (!plan.goesOn || plan.due != time) {
            return;
        }
        plan.due += plan.every;
        if (!within(plan.station.level, plan.low, plan.high)) {
            plan.passed++;
        } else if (orders.size() >= MOST_ORDERS) {
            plan.missed++;
        } else {
            plan.made++;
            plan.latest = startOrder(new Order(orders.size(), plan.tower, plan.station, plan.act, plan.v, 0));
        }
    }

    private void lookAtAlarm(Alarm alarm) {
        boolean so = holds(alarm);
        if (so && !alarm.isOn) {
            alarm.rings++;
            alarm.rangAt = time;
        }
        alarm.isOn = so;
    }

    private boolean holds(Alarm alarm) {
        Guard guard = guardAt(alarm.x);
        Station station = stationAt(alarm.x);
        switch (alarm.sort) {
            case ALARM_FUSE: return guard != null && guard.state == FUSE_OPEN;
            case ALARM_LEVEL: return station != null && station.level < alarm.y;
            case ALARM_WAITING: return guard != null && guard.queue.size() >= alarm.y;
            default: return someOrderLasts(alarm.y);
        }
    }

    private boolean someOrderLasts(int seconds) {
        for (int i = 0; i < orders.size(); i++) {
            Order order = orders.get(i);
            if (order.isUnderWay() && order.first != null && time - order.first.began > seconds) {
                return true;
            }
        }
        return false;
    }

    // ---- what the works is made of

    private static final class Station {
        final int number;
        final int capacity;
        final int delay;
        int level;

        Station(int number, int level, int capacity, int delay) {
            this.number = number;
            this.level = level;
            this.capacity = capacity;
            this.delay = delay;
        }
    }

    /** A FAULT (its size is a KIND) or a SLOWNESS (its size is seconds). */
    private static final class Span {
        final Station station;
        final int act;
        final int from;
        final int to;
        final int size;

        Span(Station station, int act, int from, int to, int size) {
            this.station = station;
            this.act = act;
            this.from = from;
            this.to = to;
            this.size = size;
        }

        boolean covers(Station place, int doing, int second) {
            return station == place && act == doing && second >= from && second <= to;
        }
    }

    private static final class Guard {
        final int number;
        final int sort;
        final int a;
        final int b;
        final int c;
        final int named;
        /** Of a FUSE. */
        int state = FUSE_CLOSED;
        int counted = 0;
        int until = 0;
        Call trial = null;
        /** Of a BULKHEAD. */
        int atWork = 0;
        int refused = 0;
        final ArrayList<Call> queue = new ArrayList<>();
        /** The TOKENS of a LIMIT. */
        int left;
        /** Of a MEMORY: for each STATION the INNER CALL whose answer is KEPT. */
        final Call[] memory = new Call[MOST_STATIONS];

        Guard(int number, int sort, int a, int b, int c, int named) {
            this.number = number;
            this.sort = sort;
            this.a = a;
            this.b = b;
            this.c = c;
            this.named = named;
            this.left = a;
        }

        Call remembered(Station station) {
            return station.number >= 0 && station.number < memory.length ? memory[station.number] : null;
        }

        void remember(Station station, Call source) {
            if (station.number >= 0 && station.number < memory.length) {
                memory[station.number] = source;
            }
        }

        void leaveQueue(Call call) {
            for (int i = 0; i < queue.size(); i++) {
                if (queue.get(i) == call) {
                    queue.remove(i);
                    return;
                }
            }
        }
    }

    private static final class Tower {
        final ArrayList<Guard> guards = new ArrayList<>();

        boolean hasSort(int sort) {
            for (int i = 0; i < guards.size(); i++) {
                if (guards.get(i).sort == sort) {
                    return true;
                }
            }
            return false;
        }

        Guard guardAtDepth(int depth) {
            return depth >= 0 && depth < guards.size() ? guards.get(depth) : null;
        }
    }

    private static final class Order {
        final int number;
        final Tower tower;
        final Station station;
        final int act;
        final int v;
        final int key;
        /** The CALL of DEPTH 0, as which the ORDER ENDS. */
        Call first = null;

        Order(int number, Tower tower, Station station, int act, int v, int key) {
            this.number = number;
            this.tower = tower;
            this.station = station;
            this.act = act;
            this.v = v;
            this.key = key;
        }

        boolean isUnderWay() {
            return first != null && first.how == UNDER_WAY;
        }

        boolean asksLike(Order other) {
            return station == other.station && act == other.act && v == other.v;
        }
    }

    private static final class Call {
        final int number;
        final Order order;
        final Call parent;
        final int depth;
        /** Null: it is a TRY. */
        final Guard guard;
        final int began;
        /** Where a TRY goes. */
        Station station = null;
        int ended = NONE;
        int how = UNDER_WAY;
        int answer = NONE;
        boolean byFallback = false;
        Failure failure = null;
        /** The second in which the TRY ENDS, the PAUSE is over, or the DEADLINE or HEDGE is due. */
        int due = NONE;
        /** Whether it WAITS, PAUSES or is JOINED, if it is UNDER WAY. */
        int rests = 0;
        boolean leads = false;
        /** The CALL that it is JOINED to. */
        Call leader = null;
        /** Its INNER ones: how many, the latest; and of an INNER one the one before it. */
        int inners = 0;
        Call latest = null;
        Call before = null;
        /** The taking back that took it. */
        int taking = 0;

        Call(int number, Order order, Call parent, Guard guard, int began) {
            this.number = number;
            this.order = order;
            this.parent = parent;
            this.depth = parent == null ? 0 : parent.depth + 1;
            this.guard = guard;
            this.began = began;
        }

        int sort() {
            return guard == null ? TRY : guard.sort;
        }

        boolean isJoinedTo(Call other) {
            return leader == other && how == UNDER_WAY;
        }
    }

    private static final class Failure {
        final int number;
        final int kind;
        final int second;
        final Guard guard;
        final Station station;
        Failure cause = null;
        /** The FAILURE that it is SUPPRESSED under. */
        Failure under = null;

        Failure(int number, int kind, int second, Guard guard, Station station) {
            this.number = number;
            this.kind = kind;
            this.second = second;
            this.guard = guard;
            this.station = station;
        }
    }

    private static final class Effect {
        final Station station;
        final Order order;
        final int litres;
        final int second;

        Effect(Station station, Order order, int litres, int second) {
            this.station = station;
            this.order = order;
            this.litres = litres;
            this.second = second;
        }
    }

    private static final class Plan {
        final Tower tower;
        final Station station;
        final int act;
        final int v;
        final int every;
        final int low;
        final int high;
        int due = 0;
        int made = 0;
        int latest = NONE;
        int missed = 0;
        int passed = 0;
        boolean goesOn = true;

        Plan(Tower tower, Station station, int act, int v, int every, int low, int high) {
            this.tower = tower;
            this.station = station;
            this.act = act;
            this.v = v;
            this.every = every;
            this.low = low;
            this.high = high;
        }
    }

    private static final class Alarm {
        final int sort;
        final int x;
        final int y;
        boolean isOn = false;
        int rings = 0;
        int rangAt = NONE;

        Alarm(int sort, int x, int y) {
            this.sort = sort;
            this.x = x;
            this.y = y;
        }
    }
}
