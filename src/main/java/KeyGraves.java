/**
 * Keys that are kept by four nodes, and the graves of deleted ones, which have to stay until each
 * node has heard of them. The promises are numbered in ../shared/DOC.md.
 */
public final class KeyGraves {
    public static final int UNKNOWN = -1;
    public static final int BAD_VALUE = -2;
    public static final int FULL = -3;
    public static final int NOT_POSSIBLE = -4;
    public static final int NONE = -5;

    private static final int NODES = 4;
    private static final int KEYS = 8;

    /** The truth is held like a node that every write reaches, behind the nodes. */
    private static final int TRUTH = NODES;
    private static final int PLACES = (NODES + 1) * KEYS;

    private static final int GREATEST_VALUE = 99;
    private static final int GREATEST_PLAN_TICK = 9999;
    private static final int GREATEST_PASS = 99;
    private static final int GREATEST_TICK = 99999;

    private static final int PLAN_ROOM = 10;
    private static final int EVENT_ROOM = 10;
    private static final int TEXT_ROOM = 60;
    private static final int HISTORY_ROOM = 4;

    private static final int SETTINGS = 5;
    private static final int WRITE_REACH = 0;
    private static final int READ_REACH = 1;
    private static final int GRACE = 2;
    private static final int CLEARING = 3;
    private static final int MENDING = 4;
    private static final int[] LEAST_SETTINGS = {1, 1, 1, 0, 0};
    private static final int[] GREATEST_SETTINGS = {4, 4, 500, 1, 1};
    private static final int[] FIRST_SETTINGS = {2, 2, 50, 0, 1};

    private static final int NOTHING = 0;
    private static final int VALUE = 1;
    private static final int GRAVE = 2;

    /** What stands in the place of the value in a grave. */
    private static final int DELETED = -1;

    private static final int EVENT_KINDS = 4;
    private static final int REPAIRED = 0;
    private static final int MISSED = 1;
    private static final int CAME_BACK = 2;
    private static final int CLEARED = 3;

    /** The tick of the latest repair of a pair that was never repaired: less than all ticks. */
    private static final int NEVER = -1;

    private static final int NO_FAULT = -1;
    private static final int FAULT_BASE = -100;

    private final State state;
    private final State[] history;
    private int historySize;
    private final State snapshot;
    private boolean snapshotTaken;
    private final PlanText text;

    public KeyGraves() {
        state = new State();
        history = new State[HISTORY_ROOM];
        for (int i = 0; i < HISTORY_ROOM; i++) {
            history[i] = new State();
        }
        historySize = 0;
        snapshot = new State();
        snapshotTaken = false;
        text = new PlanText();
    }

    // ---- settings

    public int set(int which, int value) {
        if (!isSetting(which)) {
            return UNKNOWN;
        }
        if (value < LEAST_SETTINGS[which] || value > GREATEST_SETTINGS[which]) {
            return BAD_VALUE;
        }
        int previous = state.settings[which];
        if (previous == value) {
            return NONE;
        }
        record();
        state.settings[which] = value;
        return previous;
    }

    public int setUp(int node, boolean up) {
        if (!isNode(node)) {
            return UNKNOWN;
        }
        if (state.up[node] == up) {
            return NONE;
        }
        record();
        state.up[node] = up;
        return state.nodesUp();
    }

    // ---- writes and reads

    public int write(int node, int key, int value) {
        if (!isNode(node) || !isKey(key)) {
            return UNKNOWN;
        }
        if (value < 0 || value > GREATEST_VALUE) {
            return BAD_VALUE;
        }
        if (!state.up[node]) {
            return NOT_POSSIBLE;
        }
        record();
        return state.spread(node, key, value);
    }

    public int delete(int node, int key) {
        if (!isNode(node) || !isKey(key)) {
            return UNKNOWN;
        }
        if (!state.up[node]) {
            return NOT_POSSIBLE;
        }
        record();
        return state.spread(node, key, DELETED);
    }

    public int read(int node, int key) {
        if (!isNode(node) || !isKey(key)) {
            return UNKNOWN;
        }
        if (!state.up[node]) {
            return NOT_POSSIBLE;
        }
        int source = state.newestReached(node, key);
        if (state.settings[MENDING] == 1 && state.reachedDiffer(source, key)) {
            record();
            // The state was not changed since the nodes were reached, so they still stand.
            state.mend(source, key);
        }
        return state.facts.valueAt(place(source, key));
    }

    // ---- repairs and graves

    public int repair(int one, int other) {
        if (!isNode(one) || !isNode(other)) {
            return UNKNOWN;
        }
        if (one == other) {
            return BAD_VALUE;
        }
        if (!state.up[one] || !state.up[other]) {
            return NOT_POSSIBLE;
        }
        record();
        return state.join(one, other);
    }

    public int clear(int node) {
        if (!isNode(node)) {
            return UNKNOWN;
        }
        if (!state.up[node]) {
            return NOT_POSSIBLE;
        }
        if (state.clearableGraves(node) == 0) {
            return NONE;
        }
        record();
        return state.clearGraves(node);
    }

    public int plan(int one, int other, int tick) {
        if (!isNode(one) || !isNode(other)) {
            return UNKNOWN;
        }
        if (tick < 0 || tick > GREATEST_PLAN_TICK || one == other) {
            return BAD_VALUE;
        }
        if (state.plan.size >= PLAN_ROOM) {
            return FULL;
        }
        record();
        state.plan.add(one, other, tick);
        return state.plan.size;
    }

    public int readPlan() {
        int fault = text.fault();
        if (fault != NO_FAULT) {
            return FAULT_BASE - fault;
        }
        if (text.repairs() > PLAN_ROOM) {
            return FULL;
        }
        record();
        text.fill(state.plan);
        return state.plan.size;
    }

    public int pass(int ticks) {
        if (ticks < 1 || ticks > GREATEST_PASS) {
            return BAD_VALUE;
        }
        if (state.tick + ticks > GREATEST_TICK) {
            return FULL;
        }
        record();
        int done = 0;
        for (int i = 0; i < ticks; i++) {
            done += state.passTick();
        }
        return done;
    }

    // ---- texts

    public int type(char character) {
        if (text.length >= TEXT_ROOM) {
            return FULL;
        }
        text.signs[text.length] = character;
        text.length++;
        return text.length;
    }

    public int clearText() {
        int length = text.length;
        text.length = 0;
        return length;
    }

    // ---- history

    public int undo() {
        if (historySize < 1) {
            return NONE;
        }
        historySize--;
        state.copyFrom(history[historySize]);
        return historySize;
    }

    public int keep() {
        snapshot.copyFrom(state);
        snapshotTaken = true;
        return state.tick;
    }

    public int restore() {
        if (!snapshotTaken) {
            return NONE;
        }
        record();
        state.copyFrom(snapshot);
        return state.tick;
    }

    // ---- what is told

    public int known(int node, int key, int what) {
        if (!isNode(node) || !isKey(key)) {
            return UNKNOWN;
        }
        Facts facts = state.facts;
        int place = place(node, key);
        boolean knows = facts.kindAt(place) != NOTHING;
        switch (what) {
            case 0:
                return facts.kindAt(place);
            case 1:
                return facts.valueAt(place);
            case 2:
                return knows ? facts.stamps[place] : NONE;
            case 3:
                return knows ? facts.ticks[place] : NONE;
            case 4:
                return state.isRipe(node, key) ? 1 : 0;
            case 5:
                return state.isHaunted(node, key) ? 1 : 0;
            case 6:
                return knows ? facts.learned[place] : NONE;
            default:
                return BAD_VALUE;
        }
    }

    public int truth(int key, int what) {
        if (!isKey(key)) {
            return UNKNOWN;
        }
        int place = place(TRUTH, key);
        switch (what) {
            case 0:
                return state.facts.kindAt(place);
            case 1:
                return state.facts.valueAt(place);
            case 2:
                return state.nodesWithTruth(key);
            case 3:
                return state.nodesHauntedBy(key);
            case 4:
                return state.isSettledGrave(TRUTH, key) ? 1 : 0;
            default:
                return BAD_VALUE;
        }
    }

    public int node(int node, int what) {
        if (!isNode(node)) {
            return UNKNOWN;
        }
        switch (what) {
            case 0:
                return state.up[node] ? 1 : 0;
            case 1:
                return state.keysOfKind(node, VALUE);
            case 2:
                return state.keysOfKind(node, GRAVE);
            case 3:
                return state.ripeGraves(node);
            case 4:
                return state.clearableGraves(node);
            case 5:
                return state.keysThatHaunt(node);
            default:
                return BAD_VALUE;
        }
    }

    public int pair(int one, int other, int what) {
        if (!isNode(one) || !isNode(other)) {
            return UNKNOWN;
        }
        if (one == other) {
            return BAD_VALUE;
        }
        switch (what) {
            case 0:
                int tick = state.lastRepairs[pairPlace(one, other)];
                return tick == NEVER ? NONE : tick;
            case 1:
                return state.keysKnownOtherwise(one, other);
            default:
                return BAD_VALUE;
        }
    }

    public int slowest() {
        return state.slowestPair();
    }

    public int graceNeeded() {
        return state.safeGrace();
    }

    public int event(int back, int what) {
        if (back < 0 || what < 0 || what > 3) {
            return BAD_VALUE;
        }
        EventLog log = state.log;
        if (back >= log.size) {
            return NONE;
        }
        int place = log.placeOf(back);
        switch (what) {
            case 0:
                return log.kinds[place];
            case 1:
                return log.ticks[place];
            case 2:
                return log.firsts[place];
            default:
                return log.seconds[place];
        }
    }

    public int planned(int place, int what) {
        if (place < 0 || what < 0 || what > 2) {
            return BAD_VALUE;
        }
        Plan plan = state.plan;
        if (place >= plan.size) {
            return NONE;
        }
        switch (what) {
            case 0:
                return plan.ones[place];
            case 1:
                return plan.others[place];
            default:
                return plan.ticks[place];
        }
    }

    public int count(int what) {
        switch (what) {
            case 0:
                return state.tick;
            case 1:
                return state.stampsGiven;
            case 2:
                return state.log.counts[REPAIRED];
            case 3:
                return state.log.counts[MISSED];
            case 4:
                return state.log.counts[CAME_BACK];
            case 5:
                return state.log.counts[CLEARED];
            case 6:
                return state.gravesOfAllNodes();
            case 7:
                return state.hauntingKeys();
            case 8:
                return state.plan.size;
            case 9:
                return state.nodesUp();
            case 10:
                return state.gravesNotSettled();
            case 11:
                return historySize;
            case 12:
                return text.length;
            default:
                return BAD_VALUE;
        }
    }

    public int setting(int which) {
        if (!isSetting(which)) {
            return UNKNOWN;
        }
        return state.settings[which];
    }

    // ---- helpers of the calls above

    private static boolean isNode(int node) {
        return node >= 0 && node < NODES;
    }

    private static boolean isKey(int key) {
        return key >= 0 && key < KEYS;
    }

    private static boolean isSetting(int which) {
        return which >= 0 && which < SETTINGS;
    }

    /** Where the facts hold what a node, or the truth, knows of a key. */
    private static int place(int node, int key) {
        return node * KEYS + key;
    }

    /** Where the latest repair of a pair stands: the same place, whichever node is told first. */
    private static int pairPlace(int one, int other) {
        return Math.min(one, other) * NODES + Math.max(one, other);
    }

    /** Records the state that is before an act; the rows of a dropped state are used again. */
    private void record() {
        if (historySize >= HISTORY_ROOM) {
            State dropped = history[0];
            for (int i = 1; i < HISTORY_ROOM; i++) {
                history[i - 1] = history[i];
            }
            history[HISTORY_ROOM - 1] = dropped;
            historySize = HISTORY_ROOM - 1;
        }
        history[historySize].copyFrom(state);
        historySize++;
    }

    /** What each node, and the truth, knows of each key. A stamp of 0 stands for nothing. */
    private static final class Facts {
        final int[] stamps = new int[PLACES];
        final int[] contents = new int[PLACES];
        final int[] ticks = new int[PLACES];
        final int[] learned = new int[PLACES];

        void copyFrom(Facts from) {
            System.arraycopy(from.stamps, 0, stamps, 0, PLACES);
            System.arraycopy(from.contents, 0, contents, 0, PLACES);
            System.arraycopy(from.ticks, 0, ticks, 0, PLACES);
            System.arraycopy(from.learned, 0, learned, 0, PLACES);
        }

        int kindAt(int place) {
            if (stamps[place] == 0) {
                return NOTHING;
            }
            return contents[place] == DELETED ? GRAVE : VALUE;
        }

        int valueAt(int place) {
            return kindAt(place) == VALUE ? contents[place] : NONE;
        }

        void put(int place, int stamp, int content, int tick) {
            stamps[place] = stamp;
            contents[place] = content;
            ticks[place] = tick;
            learned[place] = tick;
        }

        void take(int place, int source, int tick) {
            stamps[place] = stamps[source];
            contents[place] = contents[source];
            ticks[place] = ticks[source];
            learned[place] = tick;
        }

        void forget(int place) {
            put(place, 0, 0, 0);
        }
    }

    /** The planned repairs, in the order in which they were added. */
    private static final class Plan {
        int size = 0;
        final int[] ones = new int[PLAN_ROOM];
        final int[] others = new int[PLAN_ROOM];
        final int[] ticks = new int[PLAN_ROOM];

        void copyFrom(Plan from) {
            size = from.size;
            System.arraycopy(from.ones, 0, ones, 0, PLAN_ROOM);
            System.arraycopy(from.others, 0, others, 0, PLAN_ROOM);
            System.arraycopy(from.ticks, 0, ticks, 0, PLAN_ROOM);
        }

        void add(int one, int other, int tick) {
            if (size >= PLAN_ROOM) {
                return;
            }
            ones[size] = one;
            others[size] = other;
            ticks[size] = tick;
            size++;
        }
    }

    /** The latest events, in rows that go round, and how many of each kind there were. */
    private static final class EventLog {
        int size = 0;
        int newest = 0;
        final int[] counts = new int[EVENT_KINDS];
        final int[] kinds = new int[EVENT_ROOM];
        final int[] ticks = new int[EVENT_ROOM];
        final int[] firsts = new int[EVENT_ROOM];
        final int[] seconds = new int[EVENT_ROOM];

        void copyFrom(EventLog from) {
            size = from.size;
            newest = from.newest;
            System.arraycopy(from.counts, 0, counts, 0, EVENT_KINDS);
            System.arraycopy(from.kinds, 0, kinds, 0, EVENT_ROOM);
            System.arraycopy(from.ticks, 0, ticks, 0, EVENT_ROOM);
            System.arraycopy(from.firsts, 0, firsts, 0, EVENT_ROOM);
            System.arraycopy(from.seconds, 0, seconds, 0, EVENT_ROOM);
        }

        void add(int kind, int tick, int first, int second) {
            newest = (newest + 1) % EVENT_ROOM;
            kinds[newest] = kind;
            ticks[newest] = tick;
            firsts[newest] = first;
            seconds[newest] = second;
            counts[kind]++;
            if (size < EVENT_ROOM) {
                size++;
            }
        }

        /** The row of an event; back is 0 or more, and less than the size. */
        int placeOf(int back) {
            return (newest + EVENT_ROOM - back) % EVENT_ROOM;
        }
    }

    /** The text of a plan, which is no part of the state. */
    private static final class PlanText {
        // What may stand next in the text. The three places behind FIRST_DIGIT allow one
        // more digit or a comma; TICK_END allows a comma alone.
        private static final int NO_PLACE = -1;
        private static final int FIRST_NODE = 0;
        private static final int DASH = 1;
        private static final int OTHER_NODE = 2;
        private static final int AT = 3;
        private static final int FIRST_DIGIT = 4;
        private static final int TICK_END = 8;

        final char[] signs = new char[TEXT_ROOM];
        int length = 0;

        /** The index of the first fault, or NO_FAULT. */
        int fault() {
            int place = FIRST_NODE;
            char node = ' ';
            for (int i = 0; i < length; i++) {
                char sign = signs[i];
                if (place == FIRST_NODE) {
                    node = sign;
                }
                place = placeBehind(place, sign, node);
                if (place == NO_PLACE) {
                    return i;
                }
            }
            return place > FIRST_DIGIT ? NO_FAULT : length;
        }

        /** How many repairs a text without a fault tells. */
        int repairs() {
            int repairs = 1;
            for (int i = 0; i < length; i++) {
                if (signs[i] == ',') {
                    repairs++;
                }
            }
            return repairs;
        }

        /** Makes the repairs of the text, which has no fault, the plan. */
        void fill(Plan plan) {
            plan.size = 0;
            int one = 0;
            int other = 0;
            int number = 0;
            for (int i = 0; i < length; i++) {
                char sign = signs[i];
                if (isDigit(sign)) {
                    number = number * 10 + (sign - '0');
                } else {
                    // The sign behind a number tells which number it was.
                    if (sign == '-') {
                        one = number;
                    } else if (sign == '@') {
                        other = number;
                    } else {
                        plan.add(one, other, number);
                    }
                    number = 0;
                }
            }
            plan.add(one, other, number);
        }

        private static int placeBehind(int place, char sign, char node) {
            switch (place) {
                case FIRST_NODE:
                    return isNodeSign(sign) ? DASH : NO_PLACE;
                case DASH:
                    return sign == '-' ? OTHER_NODE : NO_PLACE;
                case OTHER_NODE:
                    return isNodeSign(sign) && sign != node ? AT : NO_PLACE;
                case AT:
                    return sign == '@' ? FIRST_DIGIT : NO_PLACE;
                case FIRST_DIGIT:
                    if (sign == '0') {
                        return TICK_END;
                    }
                    return isDigit(sign) ? FIRST_DIGIT + 1 : NO_PLACE;
                default:
                    if (sign == ',') {
                        return FIRST_NODE;
                    }
                    return isDigit(sign) && place < TICK_END ? place + 1 : NO_PLACE;
            }
        }

        private static boolean isNodeSign(char sign) {
            return sign >= '0' && sign < '0' + NODES;
        }

        private static boolean isDigit(char sign) {
            return sign >= '0' && sign <= '9';
        }
    }

    /** All that undo() and restore() bring back. Nodes and keys were looked at by the callers. */
    private static final class State {
        int tick = 0;
        int stampsGiven = 0;
        final int[] settings = new int[SETTINGS];
        final boolean[] up = new boolean[NODES];
        final Facts facts = new Facts();
        final int[] lastRepairs = new int[NODES * NODES];
        final Plan plan = new Plan();
        final EventLog log = new EventLog();

        // The nodes that the latest write or read reached: rows that are used again by
        // each call, so no part of what is copied.
        private final int[] reached = new int[NODES];
        private int reachedCount = 0;

        State() {
            for (int i = 0; i < SETTINGS; i++) {
                settings[i] = FIRST_SETTINGS[i];
            }
            for (int i = 0; i < NODES; i++) {
                up[i] = true;
            }
            for (int i = 0; i < NODES * NODES; i++) {
                lastRepairs[i] = NEVER;
            }
        }

        void copyFrom(State from) {
            tick = from.tick;
            stampsGiven = from.stampsGiven;
            System.arraycopy(from.settings, 0, settings, 0, SETTINGS);
            for (int i = 0; i < NODES; i++) {
                up[i] = from.up[i];
            }
            facts.copyFrom(from.facts);
            System.arraycopy(from.lastRepairs, 0, lastRepairs, 0, NODES * NODES);
            plan.copyFrom(from.plan);
            log.copyFrom(from.log);
        }

        // ---- writes and reads

        private void reach(int from, int limit) {
            reachedCount = 0;
            for (int step = 0; step < NODES; step++) {
                int node = (from + step) % NODES;
                if (up[node] && reachedCount < limit) {
                    reached[reachedCount] = node;
                    reachedCount++;
                }
            }
        }

        /** Lets the reached nodes know a new value, or DELETED; answers how many they are. */
        int spread(int from, int key, int content) {
            stampsGiven++;
            facts.put(place(TRUTH, key), stampsGiven, content, tick);
            reach(from, settings[WRITE_REACH]);
            for (int i = 0; i < reachedCount; i++) {
                facts.put(place(reached[i], key), stampsGiven, content, tick);
            }
            return reachedCount;
        }

        /** The first of the nodes that a read reaches which knows the newest of the key. */
        int newestReached(int from, int key) {
            reach(from, settings[READ_REACH]);
            int newest = from;
            for (int i = 0; i < reachedCount; i++) {
                if (stampOf(reached[i], key) > stampOf(newest, key)) {
                    newest = reached[i];
                }
            }
            return newest;
        }

        boolean reachedDiffer(int source, int key) {
            for (int i = 0; i < reachedCount; i++) {
                if (stampOf(reached[i], key) != stampOf(source, key)) {
                    return true;
                }
            }
            return false;
        }

        void mend(int source, int key) {
            for (int i = 0; i < reachedCount; i++) {
                learn(reached[i], source, key);
            }
        }

        private int stampOf(int node, int key) {
            return facts.stamps[place(node, key)];
        }

        /** A node that knows the same already did not come to know it now. */
        private void learn(int node, int source, int key) {
            if (stampOf(node, key) == stampOf(source, key)) {
                return;
            }
            boolean wasHaunted = isHaunted(node, key);
            facts.take(place(node, key), place(source, key), tick);
            if (!wasHaunted && isHaunted(node, key)) {
                log.add(CAME_BACK, tick, node, key);
            }
        }

        // ---- repairs and ticks

        /** Repairs two nodes; answers how many keys they knew otherwise. */
        int join(int one, int other) {
            logPair(REPAIRED, one, other);
            lastRepairs[pairPlace(one, other)] = tick;
            int otherwise = keysKnownOtherwise(one, other);
            for (int key = 0; key < KEYS; key++) {
                if (stampOf(one, key) > stampOf(other, key)) {
                    learn(other, one, key);
                } else {
                    learn(one, other, key);
                }
            }
            return otherwise;
        }

        private void logPair(int kind, int one, int other) {
            log.add(kind, tick, Math.min(one, other), Math.max(one, other));
        }

        int keysKnownOtherwise(int one, int other) {
            int keys = 0;
            for (int key = 0; key < KEYS; key++) {
                if (stampOf(one, key) != stampOf(other, key)) {
                    keys++;
                }
            }
            return keys;
        }

        /** Lets one tick pass; answers how many repairs of the plan were done. */
        int passTick() {
            tick++;
            int done = 0;
            for (int i = 0; i < plan.size; i++) {
                if (plan.ticks[i] == tick) {
                    int one = plan.ones[i];
                    int other = plan.others[i];
                    if (up[one] && up[other]) {
                        join(one, other);
                        done++;
                    } else {
                        logPair(MISSED, one, other);
                    }
                }
            }
            return done;
        }

        int slowestPair() {
            int slowestOne = 0;
            int slowestOther = 1;
            for (int one = 0; one < NODES; one++) {
                for (int other = one + 1; other < NODES; other++) {
                    int slowestTick = lastRepairs[pairPlace(slowestOne, slowestOther)];
                    if (lastRepairs[pairPlace(one, other)] < slowestTick) {
                        slowestOne = one;
                        slowestOther = other;
                    }
                }
            }
            return slowestOne * 4 + slowestOther;
        }

        // ---- graves

        boolean isGrave(int node, int key) {
            return facts.kindAt(place(node, key)) == GRAVE;
        }

        private int ticksSince(int node, int key) {
            return tick - facts.ticks[place(node, key)];
        }

        boolean isRipe(int node, int key) {
            return isGrave(node, key) && ticksSince(node, key) >= settings[GRACE];
        }

        private boolean isClearable(int node, int key) {
            if (!isRipe(node, key)) {
                return false;
            }
            return settings[CLEARING] == 0
                || isRepairedSince(node, facts.learned[place(node, key)]);
        }

        /** Whether each other node had a repair with this one that is later than the tick. */
        private boolean isRepairedSince(int node, int since) {
            for (int other = 0; other < NODES; other++) {
                if (other != node && lastRepairs[pairPlace(node, other)] <= since) {
                    return false;
                }
            }
            return true;
        }

        int clearableGraves(int node) {
            int graves = 0;
            for (int key = 0; key < KEYS; key++) {
                if (isClearable(node, key)) {
                    graves++;
                }
            }
            return graves;
        }

        int clearGraves(int node) {
            int graves = 0;
            for (int key = 0; key < KEYS; key++) {
                if (isClearable(node, key)) {
                    facts.forget(place(node, key));
                    graves++;
                }
            }
            log.add(CLEARED, tick, node, graves);
            return graves;
        }

        /** Whether it is a grave that each node knows, or something newer of its key. */
        boolean isSettledGrave(int holder, int key) {
            if (!isGrave(holder, key)) {
                return false;
            }
            for (int node = 0; node < NODES; node++) {
                if (stampOf(node, key) < stampOf(holder, key)) {
                    return false;
                }
            }
            return true;
        }

        private boolean isUnsettledGrave(int node, int key) {
            return isGrave(node, key) && !isSettledGrave(node, key);
        }

        /** A grave that a lower node knows too was counted there. */
        int gravesNotSettled() {
            int graves = 0;
            for (int node = 0; node < NODES; node++) {
                for (int key = 0; key < KEYS; key++) {
                    if (isUnsettledGrave(node, key) && !lowerNodeKnowsSame(node, key)) {
                        graves++;
                    }
                }
            }
            return graves;
        }

        private boolean lowerNodeKnowsSame(int node, int key) {
            for (int lower = 0; lower < node; lower++) {
                if (stampOf(lower, key) == stampOf(node, key)) {
                    return true;
                }
            }
            return false;
        }

        /** A grave is not ripe with a grace of one tick more than have passed since its tick. */
        int safeGrace() {
            int grace = 1;
            for (int node = 0; node < NODES; node++) {
                for (int key = 0; key < KEYS; key++) {
                    if (isUnsettledGrave(node, key)) {
                        grace = Math.max(grace, ticksSince(node, key) + 1);
                    }
                }
            }
            return grace;
        }

        // ---- what is counted

        boolean isHaunted(int node, int key) {
            return facts.kindAt(place(node, key)) == VALUE && isGrave(TRUTH, key);
        }

        int nodesUp() {
            int nodes = 0;
            for (int node = 0; node < NODES; node++) {
                if (up[node]) {
                    nodes++;
                }
            }
            return nodes;
        }

        int nodesWithTruth(int key) {
            int nodes = 0;
            for (int node = 0; node < NODES; node++) {
                if (stampOf(node, key) == stampOf(TRUTH, key)) {
                    nodes++;
                }
            }
            return nodes;
        }

        int nodesHauntedBy(int key) {
            int nodes = 0;
            for (int node = 0; node < NODES; node++) {
                if (isHaunted(node, key)) {
                    nodes++;
                }
            }
            return nodes;
        }

        int keysThatHaunt(int node) {
            int keys = 0;
            for (int key = 0; key < KEYS; key++) {
                if (isHaunted(node, key)) {
                    keys++;
                }
            }
            return keys;
        }

        int hauntingKeys() {
            int keys = 0;
            for (int key = 0; key < KEYS; key++) {
                if (nodesHauntedBy(key) > 0) {
                    keys++;
                }
            }
            return keys;
        }

        int keysOfKind(int node, int kind) {
            int keys = 0;
            for (int key = 0; key < KEYS; key++) {
                if (facts.kindAt(place(node, key)) == kind) {
                    keys++;
                }
            }
            return keys;
        }

        int ripeGraves(int node) {
            int graves = 0;
            for (int key = 0; key < KEYS; key++) {
                if (isRipe(node, key)) {
                    graves++;
                }
            }
            return graves;
        }

        int gravesOfAllNodes() {
            int graves = 0;
            for (int node = 0; node < NODES; node++) {
                graves += keysOfKind(node, GRAVE);
            }
            return graves;
        }
    }
}
