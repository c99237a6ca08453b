import java.util.Arrays;

/**
 * Gates of the sea: a barrier that is shut ahead of high water. The words in capitals, and the
 * promises that each call keeps, are those of the project's document.
 *
 * <p>All rows are made in constructors and used again: no call but gate() makes an object.
 */
public final class SeaGates {
    public static final int NONE = -1000000, BAD = -1000001, STATE = -1000002, FULL = -1000003;

    /** A FINDING is answered as this, less its number. */
    private static final int FOUND = -1000010;
    private static final int FOUND_NULL = 1, FOUND_PLACE = 2, FOUND_KIND = 3, FOUND_SIZE = 4, FOUND_STORE = 5;

    private static final int SHEETS = 8, LANES = 3, ITEMS = 60;
    private static final int LANE_BYTES = 0, LANE_SHORTS = 1;

    private static final int HOURS = 8, WORLDS = 8;
    private static final int MOST_WEIGHT = 20, MOST_LEVEL = 1000, MOST_RIVER = 100;

    private static final int RULES = 8, MOST_RULE = 1000, MOST_MOVING = 3;
    private static final int SHUTS = 0, OPENS = 1, SAFE = 2, LIMIT = 3;
    private static final int ORDER_COST = 4, SHUT_COST = 5, SEA_HARM = 6, BEHIND_HARM = 7;

    /*
     * How the barrier stands, as one number: OPEN; SHUTTING and OPENING count the HOURS that are
     * still to come behind this one (0 to 2); SHUT counts the HOUR in which the water behind was
     * last as the sea, as what is behind follows from that HOUR alone.
     */
    private static final int OPEN = 0, SHUTTING = 1, OPENING = 4, SHUT = 7, STANDS = SHUT + HOURS;
    private static final int HOW_OPEN = 0, HOW_SHUTTING = 1, HOW_SHUT = 2, HOW_OPENING = 3;
    private static final int TOLD_NOTHING = 0, TOLD_TO_SHUT = 1, TOLD_TO_OPEN = 2;

    private static final int GATES = 6, MOST_MINUTES = 500, MOST_HAND = 2000, MOST_CREWS = 3;
    private static final int KINDS = 4, KIND_GATE = 0, KIND_HANDED = 1, KIND_TWIN = 2, KIND_SLOW = 3;
    private static final int SLOW_MINUTES = 200;

    private static final int SHIPS = 20, LAST_MINUTE = 100000, MOST_PASSING = 500;
    private static final int LAST_YEAR = 300, MOST_RISE = 100, RISE_BY = 10;
    private static final int TRACE_LENGTH = 16;

    private final Sheets sheets = new Sheets();
    private final Sea sea = new Sea();
    private final Barrier barrier = new Barrier(sea);
    private final Plan plan = new Plan(sea, barrier);
    private final Row row = new Row();
    private final Fairway fairway = new Fairway();
    private final Trace bodies = new Trace();
    private int finding = 0;

    public SeaGates() {
    }

    // ---- sheets

    public int sheet(int sheet, int lane, int n) {
        if (!within(sheet, 0, SHEETS - 1) || !within(lane, 0, LANES - 1) || n > ITEMS) {
            return BAD;
        }
        if (n < 0) {
            return found(FOUND_SIZE);
        }
        sheets.lay(sheet, lane, n);
        return fine(n);
    }

    public int set(int sheet, int i, int v) {
        if (!within(sheet, 0, SHEETS - 1)) {
            return BAD;
        }
        int what = sheets.look(sheet, i, 1);
        return what != 0 ? found(what) : fine(sheets.put(sheet, i, v));
    }

    public int copy(int a, int i, int b, int j, int n) {
        if (!within(a, 0, SHEETS - 1) || !within(b, 0, SHEETS - 1)) {
            return BAD;
        }
        int what = sheets.lookAtBoth(a, i, b, j, n);
        if (what != 0) {
            return found(what);
        }
        sheets.move(a, i, b, j, n);
        return fine(n);
    }

    public int drop(int sheet) {
        if (!within(sheet, 0, SHEETS - 1)) {
            return BAD;
        }
        return sheets.isMissing(sheet) ? found(FOUND_NULL) : fine(sheets.takeAway(sheet));
    }

    // ---- worlds

    public int world(int weight, int sheet, int i) {
        if (!within(weight, 1, MOST_WEIGHT) || !within(sheet, 0, SHEETS - 1)) {
            return BAD;
        }
        if (sea.size >= WORLDS) {
            return FULL;
        }
        int what = sheets.look(sheet, i, HOURS);
        if (what != 0) {
            return found(what);
        }
        if (!sheets.areWithin(sheet, i, HOURS, MOST_LEVEL)) {
            return BAD;
        }
        plan.stale = true;
        return fine(sea.add(weight, sheets.items[sheet], i));
    }

    public int river(int hour, int v) {
        if (!within(hour, 0, HOURS - 1) || !within(v, 0, MOST_RIVER)) {
            return BAD;
        }
        int was = barrier.rivers[hour];
        barrier.rivers[hour] = v;
        plan.stale = true;
        return was;
    }

    public int rule(int what, int v) {
        if (!within(what, 0, RULES - 1) || !mayBeRule(what, v)) {
            return BAD;
        }
        int was = barrier.rules[what];
        barrier.rules[what] = v;
        plan.stale = true;
        return was;
    }

    private static boolean mayBeRule(int what, int v) {
        return what == SHUTS || what == OPENS ? within(v, 1, MOST_MOVING) : within(v, 0, MOST_RULE);
    }

    public long best() {
        plan.refresh();
        return plan.loss;
    }

    public int hour(int world, int hour, int what) {
        if (!within(world, 0, sea.size - 1) || !within(hour, 0, HOURS - 1)) {
            return BAD;
        }
        plan.refresh();
        int state = plan.stateAt(world, hour);
        boolean told = plan.tells(hour, world, state);
        switch (what) {
            case 0:
                return Barrier.order(state, told);
            case 1:
                return Barrier.how(barrier.stands(state, told));
            case 2:
                return barrier.water(world, hour, barrier.stands(state, told));
            case 3:
                return barrier.lost(world, hour, state, told);
            default:
                return BAD;
        }
    }

    public long shutAt(int hour) {
        return within(hour, 0, HOURS) ? barrier.lossOfOneOrder(hour) : BAD;
    }

    public int alarm() {
        int first = sea.firstAbove(barrier.rules[SAFE]);
        if (first == HOURS) {
            return HOURS;
        }
        int latest = first - barrier.rules[SHUTS];
        return latest < 0 ? NONE : latest;
    }

    public int groups(int hour) {
        return within(hour, 0, HOURS - 1) ? sea.groupsAt(hour) : BAD;
    }

    // ---- gates

    public int gate(int minutes, int hand) {
        if (!within(minutes, 1, MOST_MINUTES) || !within(hand, 0, MOST_HAND)) {
            return BAD;
        }
        return row.size >= GATES ? FULL : row.add(gateOf(minutes, hand));
    }

    private static Gate gateOf(int minutes, int hand) {
        if (hand > 0) {
            return hand <= minutes ? new Twin(minutes, hand) : new Handed(minutes, hand);
        }
        return minutes >= SLOW_MINUTES ? new Slow(minutes) : new Gate(minutes, hand);
    }

    public int fail(int gate) {
        return becomes(gate, true);
    }

    public int mend(int gate) {
        return becomes(gate, false);
    }

    private int becomes(int number, boolean failed) {
        Gate gate = row.at(number);
        if (gate == null) {
            return BAD;
        }
        int changed = gate.failed == failed ? 0 : 1;
        gate.failed = failed;
        return changed;
    }

    public int time(int crews, int what) {
        if (!within(crews, 1, MOST_CREWS) || !within(what, 0, 1)) {
            return BAD;
        }
        return what == 0 ? row.timeToShut(crews, NONE) : row.worstTime(crews);
    }

    // ---- ships, years

    public int ship(int minute, int takes) {
        if (!within(minute, 0, LAST_MINUTE) || !within(takes, 1, MOST_PASSING)) {
            return BAD;
        }
        return fairway.size >= SHIPS ? FULL : fairway.add(minute, takes);
    }

    public int waits(int ship, int from, int to) {
        if (!within(ship, 0, fairway.size - 1) || !within(from, 0, LAST_MINUTE) || !within(to, from, LAST_MINUTE)) {
            return BAD;
        }
        return fairway.waitOf(ship, from, to);
    }

    public int closings(int sheet, int i, int n, int rise, int level, int year) {
        if (!arePeaks(sheet, n, rise) || !within(year, 0, LAST_YEAR)) {
            return BAD;
        }
        int what = sheets.look(sheet, i, n);
        return what != 0 ? found(what) : fine(sheets.above(sheet, i, n, levelIn(year, rise, level)));
    }

    public int tooMany(int sheet, int i, int n, int rise, int level, int m) {
        if (!arePeaks(sheet, n, rise) || m < 0) {
            return BAD;
        }
        int what = sheets.look(sheet, i, n);
        if (what != 0) {
            return found(what);
        }
        // CLOSINGS never become fewer as years go, so halving finds the first year.
        int first = 0;
        int behind = LAST_YEAR + 1;
        for (int round = 0; round < LAST_YEAR && first < behind; round++) {
            int year = (first + behind) / 2;
            if (sheets.above(sheet, i, n, levelIn(year, rise, level)) > m) {
                behind = year;
            } else {
                first = year + 1;
            }
        }
        return fine(first > LAST_YEAR ? NONE : first);
    }

    private static boolean arePeaks(int sheet, int n, int rise) {
        return within(sheet, 0, SHEETS - 1) && within(n, 1, ITEMS) && within(rise, 0, MOST_RISE);
    }

    /** The level that stands to the PEAKS of year 0 as a level does to those of a year. */
    private static long levelIn(int year, int rise, int level) {
        return (long) level - year * rise / RISE_BY;
    }

    // ---- asked

    public int kind(int gate) {
        Gate asked = row.at(gate);
        return asked == null ? BAD : asked.toldAs();
    }

    public int as(int gate, int kind) {
        Gate taken = row.at(gate);
        if (taken == null || !within(kind, 0, KINDS - 1)) {
            return BAD;
        }
        return isOf(taken, kind) ? fine(taken.minutes) : found(FOUND_KIND);
    }

    private static boolean isOf(Gate gate, int kind) {
        switch (kind) {
            case KIND_HANDED:
                return gate instanceof Handed;
            case KIND_TWIN:
                return gate instanceof Twin;
            case KIND_SLOW:
                return gate instanceof Slow;
            default:
                return true;
        }
    }

    public int ask(int gate, int what) {
        Gate asked = row.at(gate);
        if (asked == null || !within(what, 0, 1)) {
            return BAD;
        }
        bodies.length = 0;
        return what == 0 ? asked.cost(bodies) : asked.mark(bodies);
    }

    public int trace(int i) {
        return within(i, 0, bodies.length - 1) ? bodies.numbers[i] : NONE;
    }

    public int count(int what) {
        switch (what) {
            case 0:
                return sheets.present();
            case 1:
                return sea.size;
            case 2:
                return sea.allWeights();
            case 3:
                return row.size;
            case 4:
                return row.failedOnes();
            case 5:
                return fairway.size;
            default:
                return BAD;
        }
    }

    public int status() {
        return finding;
    }

    private int found(int what) {
        finding = what;
        return FOUND - what;
    }

    private int fine(int answer) {
        finding = 0;
        return answer;
    }

    private static boolean within(int v, int least, int most) {
        return least <= v && v <= most;
    }

    /** The SHEETS, in rows that are as long as a SHEET may be. */
    private static final class Sheets {
        private static final int MISSING = -1;

        final int[][] items = new int[SHEETS][ITEMS];
        private final int[] lanes = new int[SHEETS];
        private final int[] sizes = new int[SHEETS];

        Sheets() {
            Arrays.fill(sizes, MISSING);
        }

        boolean isMissing(int sheet) {
            return sizes[sheet] == MISSING;
        }

        void lay(int sheet, int lane, int n) {
            lanes[sheet] = lane;
            sizes[sheet] = n;
            Arrays.fill(items[sheet], 0);
        }

        int takeAway(int sheet) {
            int had = sizes[sheet];
            sizes[sheet] = MISSING;
            return had;
        }

        /** The FINDING for n ITEMS from i on; 0: they are there. */
        int look(int sheet, int i, int n) {
            if (isMissing(sheet)) {
                return FOUND_NULL;
            }
            return hasPlaces(sheet, i, n) ? 0 : FOUND_PLACE;
        }

        int lookAtBoth(int a, int i, int b, int j, int n) {
            if (isMissing(a) || isMissing(b)) {
                return FOUND_NULL;
            }
            if (lanes[a] != lanes[b]) {
                return FOUND_STORE;
            }
            return hasPlaces(a, i, n) && hasPlaces(b, j, n) ? 0 : FOUND_PLACE;
        }

        private boolean hasPlaces(int sheet, int i, int n) {
            return n >= 0 && i >= 0 && i <= sizes[sheet] - n;
        }

        int put(int sheet, int i, int v) {
            items[sheet][i] = narrowed(lanes[sheet], v);
            return items[sheet][i];
        }

        private static int narrowed(int lane, int v) {
            if (lane == LANE_BYTES) {
                return (byte) v;
            }
            return lane == LANE_SHORTS ? (short) v : v;
        }

        void move(int a, int i, int b, int j, int n) {
            System.arraycopy(items[a], i, items[b], j, n);
        }

        boolean areWithin(int sheet, int i, int n, int most) {
            for (int k = i; k < i + n; k++) {
                if (!within(items[sheet][k], 0, most)) {
                    return false;
                }
            }
            return true;
        }

        int above(int sheet, int i, int n, long level) {
            int above = 0;
            for (int k = i; k < i + n; k++) {
                if (items[sheet][k] > level) {
                    above++;
                }
            }
            return above;
        }

        int present() {
            int present = 0;
            for (int sheet = 0; sheet < SHEETS; sheet++) {
                if (!isMissing(sheet)) {
                    present++;
                }
            }
            return present;
        }
    }

    /** The WORLDS, and which of them have like LEVELS till an HOUR. */
    private static final class Sea {
        final int[] weights = new int[WORLDS];
        final int[][] levels = new int[WORLDS][HOURS];
        /** By HOUR and WORLD: the least WORLD of the same group, which stands for all of it. */
        final int[][] heads = new int[HOURS][WORLDS];
        int size = 0;

        int add(int weight, int[] items, int from) {
            int world = size;
            System.arraycopy(items, from, levels[world], 0, HOURS);
            weights[world] = weight;
            for (int hour = 0; hour < HOURS; hour++) {
                heads[hour][world] = headOf(world, hour);
            }
            size++;
            return world;
        }

        private int headOf(int world, int hour) {
            int head = 0;
            while (head < world && !areAlike(head, world, hour)) {
                head++;
            }
            return head;
        }

        private boolean areAlike(int one, int other, int lastHour) {
            for (int hour = 0; hour <= lastHour; hour++) {
                if (levels[one][hour] != levels[other][hour]) {
                    return false;
                }
            }
            return true;
        }

        int groupsAt(int hour) {
            int groups = 0;
            for (int world = 0; world < size; world++) {
                if (heads[hour][world] == world) {
                    groups++;
                }
            }
            return groups;
        }

        int weightOfGroup(int hour, int head) {
            int weight = 0;
            for (int world = head; world < size; world++) {
                if (heads[hour][world] == head) {
                    weight += weights[world];
                }
            }
            return weight;
        }

        int allWeights() {
            int all = 0;
            for (int world = 0; world < size; world++) {
                all += weights[world];
            }
            return all;
        }

        /** The first HOUR in which the sea is above a level in some WORLD; HOURS: there is none. */
        int firstAbove(int level) {
            for (int hour = 0; hour < HOURS; hour++) {
                for (int world = 0; world < size; world++) {
                    if (levels[world][hour] > level) {
                        return hour;
                    }
                }
            }
            return HOURS;
        }
    }

    /** What THE BARRIER does in an HOUR, by RULES and RIVER. A state is how it stands as an HOUR begins. */
    private static final class Barrier {
        final int[] rules = {1, 1, 300, 200, 50, 5, 10, 3};
        final int[] rivers = {10, 10, 10, 10, 10, 10, 10, 10};
        private final Sea sea;

        Barrier(Sea sea) {
            this.sea = sea;
        }

        static boolean mayBeTold(int state) {
            return state == OPEN || state >= SHUT;
        }

        static int order(int state, boolean told) {
            if (!told) {
                return TOLD_NOTHING;
            }
            return state == OPEN ? TOLD_TO_SHUT : TOLD_TO_OPEN;
        }

        static int how(int stands) {
            if (stands == OPEN) {
                return HOW_OPEN;
            }
            if (stands >= SHUT) {
                return HOW_SHUT;
            }
            return stands < OPENING ? HOW_SHUTTING : HOW_OPENING;
        }

        /** How it stands in an HOUR, behind what it is told. */
        int stands(int state, boolean told) {
            if (!told) {
                return state;
            }
            return state == OPEN ? SHUTTING + rules[SHUTS] - 1 : OPENING + rules[OPENS] - 1;
        }

        /** The state as the HOUR behind this one begins. */
        static int next(int stands, int hour) {
            if (stands == SHUTTING) {
                return SHUT + hour;
            }
            if (stands == OPENING) {
                return OPEN;
            }
            return mayBeTold(stands) ? stands : stands - 1;
        }

        /** The water behind at an HOUR's end. */
        int water(int world, int hour, int stands) {
            if (stands < SHUT) {
                return sea.levels[world][hour];
            }
            int asTheSea = Math.min(stands - SHUT, hour);
            int water = sea.levels[world][asTheSea];
            for (int filled = asTheSea + 1; filled <= hour; filled++) {
                water += rivers[filled];
            }
            return water;
        }

        int lost(int world, int hour, int state, boolean told) {
            int stands = stands(state, told);
            int water = water(world, hour, stands);
            if (stands >= SHUT) {
                return rules[SHUT_COST] + rules[BEHIND_HARM] * Math.max(0, water - rules[LIMIT]);
            }
            int order = told && state == OPEN ? rules[ORDER_COST] : 0;
            return order + rules[SEA_HARM] * Math.max(0, water - rules[SAFE]);
        }

        /** LOSS of the POLICY with one order to shut, in all WORLDS; none, if the HOUR is HOURS. */
        long lossOfOneOrder(int orderHour) {
            long loss = 0;
            for (int world = 0; world < sea.size; world++) {
                int state = OPEN;
                for (int hour = 0; hour < HOURS; hour++) {
                    boolean told = hour == orderHour;
                    loss += (long) sea.weights[world] * lost(world, hour, state, told);
                    state = next(stands(state, told), hour);
                }
            }
            return loss;
        }
    }

    /** BEST, reckoned from the last HOUR back for each group of WORLDS and each state. */
    private static final class Plan {
        private final Sea sea;
        private final Barrier barrier;
        /** By HOUR and head of a group: a bit for each state in which it is told. */
        private final int[][] orders = new int[HOURS][WORLDS];
        /** By head of a group and state: the least LOSS from an HOUR on, and from the HOUR behind it on. */
        private final long[][] now = new long[WORLDS][STANDS];
        private final long[][] then = new long[WORLDS][STANDS];
        long loss = 0;
        boolean stale = false;

        Plan(Sea sea, Barrier barrier) {
            this.sea = sea;
            this.barrier = barrier;
        }

        void refresh() {
            if (!stale) {
                return;
            }
            for (int hour = HOURS - 1; hour >= 0; hour--) {
                decideHour(hour);
            }
            loss = 0;
            for (int world = 0; world < sea.size; world++) {
                if (sea.heads[0][world] == world) {
                    loss += now[world][OPEN];
                }
            }
            stale = false;
        }

        private void decideHour(int hour) {
            for (int world = 0; world < sea.size; world++) {
                System.arraycopy(now[world], 0, then[world], 0, STANDS);
            }
            for (int world = 0; world < sea.size; world++) {
                orders[hour][world] = 0;
                if (sea.heads[hour][world] == world) {
                    decideGroup(hour, world);
                }
            }
        }

        /** As an HOUR begins, the water behind was last as the sea in an HOUR ahead of it. */
        private void decideGroup(int hour, int head) {
            int weight = sea.weightOfGroup(hour, head);
            for (int state = OPEN; state < SHUT + hour; state++) {
                long least = lossFrom(hour, head, weight, state, false);
                if (Barrier.mayBeTold(state)) {
                    long told = lossFrom(hour, head, weight, state, true);
                    if (told < least) {
                        least = told;
                        orders[hour][head] |= 1 << state;
                    }
                }
                now[head][state] = least;
            }
        }

        private long lossFrom(int hour, int head, int weight, int state, boolean told) {
            long sum = (long) weight * barrier.lost(head, hour, state, told);
            if (hour == HOURS - 1) {
                return sum;
            }
            int next = Barrier.next(barrier.stands(state, told), hour);
            for (int world = head; world < sea.size; world++) {
                if (sea.heads[hour][world] == head && sea.heads[hour + 1][world] == world) {
                    sum += then[world][next];
                }
            }
            return sum;
        }

        boolean tells(int hour, int world, int state) {
            return (orders[hour][sea.heads[hour][world]] >> state & 1) == 1;
        }

        int stateAt(int world, int lastHour) {
            int state = OPEN;
            for (int hour = 0; hour < lastHour; hour++) {
                state = Barrier.next(barrier.stands(state, tells(hour, world, state)), hour);
            }
            return state;
        }
    }

    /** Where the BODIES of an ask leave their numbers. */
    private static final class Trace {
        final int[] numbers = new int[TRACE_LENGTH];
        int length = 0;

        void leave(int body) {
            if (length < TRACE_LENGTH) {
                numbers[length] = body;
                length++;
            }
        }
    }

    /** A GATE; it lends COST and MARK to the KINDS below it. */
    private static class Gate {
        final int minutes;
        final int hand;
        boolean failed = false;

        Gate(int minutes, int hand) {
            this.minutes = minutes;
            this.hand = hand;
        }

        int toldAs() {
            return KIND_GATE;
        }

        int cost(Trace trace) {
            trace.leave(10);
            return minutes;
        }

        int mark(Trace trace) {
            trace.leave(20);
            return failed ? 1 : 0;
        }
    }

    private static class Handed extends Gate {
        Handed(int minutes, int hand) {
            super(minutes, hand);
        }

        int toldAs() {
            return KIND_HANDED;
        }

        int cost(Trace trace) {
            trace.leave(11);
            return super.cost(trace) + hand;
        }

        int mark(Trace trace) {
            trace.leave(21);
            return super.mark(trace) + cost(trace);
        }
    }

    private static final class Twin extends Handed {
        Twin(int minutes, int hand) {
            super(minutes, hand);
        }

        int toldAs() {
            return KIND_TWIN;
        }

        int cost(Trace trace) {
            trace.leave(12);
            return super.cost(trace) / 2;
        }
    }

    private static final class Slow extends Gate {
        Slow(int minutes) {
            super(minutes, 0);
        }

        int toldAs() {
            return KIND_SLOW;
        }

        int cost(Trace trace) {
            trace.leave(13);
            return super.cost(trace) + 1000;
        }

        int mark(Trace trace) {
            trace.leave(22);
            return super.mark(trace) - cost(trace);
        }
    }

    /** The GATES by their numbers. */
    private static final class Row {
        private final Gate[] gates = new Gate[GATES];
        private final int[] free = new int[MOST_CREWS];
        int size = 0;

        int add(Gate gate) {
            gates[size] = gate;
            size++;
            return size - 1;
        }

        /** The GATE of a number; null: there is none. */
        Gate at(int number) {
            return within(number, 0, size - 1) ? gates[number] : null;
        }

        int failedOnes() {
            int failed = 0;
            for (Gate gate : gates) {
                if (gate != null && gate.failed) {
                    failed++;
                }
            }
            return failed;
        }

        /** TIME, as if one more GATE had FAILED (NONE: no more). */
        int timeToShut(int crews, int oneMore) {
            Arrays.fill(free, 0);
            int greatest = 0;
            for (int number = 0; number < GATES; number++) {
                Gate gate = gates[number];
                if (gate == null) {
                    continue;
                }
                int ends = gate.minutes;
                if (gate.failed || number == oneMore) {
                    if (gate.hand == 0) {
                        return NONE;
                    }
                    ends = endByHand(crews, gate.hand);
                }
                greatest = Math.max(greatest, ends);
            }
            return greatest;
        }

        private int endByHand(int crews, int hand) {
            int first = 0;
            for (int crew = 1; crew < crews; crew++) {
                if (free[crew] < free[first]) {
                    first = crew;
                }
            }
            free[first] += hand;
            return free[first];
        }

        int worstTime(int crews) {
            if (failedOnes() == size) {
                return timeToShut(crews, NONE);
            }
            int worst = 0;
            for (int number = 0; number < GATES; number++) {
                Gate gate = gates[number];
                if (gate == null || gate.failed) {
                    continue;
                }
                int tried = timeToShut(crews, number);
                if (tried == NONE) {
                    return NONE;
                }
                worst = Math.max(worst, tried);
            }
            return worst;
        }
    }

    /** The SHIPS, and the order in which they pass. */
    private static final class Fairway {
        private final int[] minutes = new int[SHIPS];
        private final int[] passing = new int[SHIPS];
        private final int[] inTurn = new int[SHIPS];
        int size = 0;

        int add(int minute, int takes) {
            int ship = size;
            minutes[ship] = minute;
            passing[ship] = takes;
            int turn = ship;
            while (turn > 0 && minutes[inTurn[turn - 1]] > minute) {
                inTurn[turn] = inTurn[turn - 1];
                turn--;
            }
            inTurn[turn] = ship;
            size++;
            return ship;
        }

        int waitOf(int ship, int from, int to) {
            int waited = 0;
            int free = 0;
            for (int turn = 0; turn < size; turn++) {
                int passes = inTurn[turn];
                int begins = Math.max(free, minutes[passes]);
                if (from <= begins && begins < to) {
                    begins = to;
                }
                if (passes == ship) {
                    waited = begins - minutes[passes];
                }
                free = begins + passing[passes];
            }
            return waited;
        }
    }
}
