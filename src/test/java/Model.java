import java.util.ArrayList;
import java.util.HashMap;
import java.util.HashSet;
import java.util.List;
import java.util.Map;
import java.util.Set;
import java.util.regex.Pattern;

/**
 * The document once more, in another form: facts are records in maps, states are copied whole, and
 * the fault of a text is found by trying what could still follow.
 */
final class Model {
    record Fact(boolean grave, int value, int stamp, int tick, int learned) {
    }

    record Event(int kind, int tick, int first, int second) {
    }

    record Repair(int one, int other, int tick) {
    }

    private static final class World {
        int tick = 0;
        int stamps = 0;
        List<Integer> settings = new ArrayList<>(List.of(2, 2, 50, 0, 1));
        Set<Integer> down = new HashSet<>();
        List<Map<Integer, Fact>> nodes = new ArrayList<>();
        Map<Integer, Fact> truths = new HashMap<>();
        Map<Set<Integer>, Integer> repairs = new HashMap<>();
        List<Repair> plan = new ArrayList<>();
        List<Event> events = new ArrayList<>();

        World() {
            for (int node = 0; node < 4; node++) {
                nodes.add(new HashMap<>());
            }
        }

        World copy() {
            World copy = new World();
            copy.tick = tick;
            copy.stamps = stamps;
            copy.settings = new ArrayList<>(settings);
            copy.down = new HashSet<>(down);
            for (int node = 0; node < 4; node++) {
                copy.nodes.set(node, new HashMap<>(nodes.get(node)));
            }
            copy.truths = new HashMap<>(truths);
            copy.repairs = new HashMap<>(repairs);
            copy.plan = new ArrayList<>(plan);
            copy.events = new ArrayList<>(events);
            return copy;
        }
    }

    private static final int[][] RANGES = {{1, 4}, {1, 4}, {1, 500}, {0, 1}, {0, 1}};
    private static final Pattern PIECE =
        Pattern.compile("([0-3])-(?!\\1)[0-3]@(0|[1-9][0-9]{0,3})");
    private static final String[] ENDS =
        {"", "0-1@5", "-0@5", "-1@5", "0@5", "1@5", "@5", "5"};

    private World w = new World();
    private World kept = null;
    private final List<World> past = new ArrayList<>();
    private final StringBuilder text = new StringBuilder();

    private static boolean in(int number, int least, int greatest) {
        return number >= least && number <= greatest;
    }

    private static int bit(boolean yes) {
        return yes ? 1 : 0;
    }

    private void remember(World before) {
        past.add(before);
        if (past.size() > 4) {
            past.remove(0);
        }
    }

    int set(int which, int value) {
        if (!in(which, 0, 4)) {
            return -1;
        }
        if (!in(value, RANGES[which][0], RANGES[which][1])) {
            return -2;
        }
        if (w.settings.get(which) == value) {
            return -5;
        }
        remember(w.copy());
        return w.settings.set(which, value);
    }

    int setUp(int node, boolean up) {
        if (!in(node, 0, 3)) {
            return -1;
        }
        if (up != w.down.contains(node)) {
            return -5;
        }
        remember(w.copy());
        if (up) {
            w.down.remove(node);
        } else {
            w.down.add(node);
        }
        return 4 - w.down.size();
    }

    private List<Integer> reached(int from, int reach) {
        List<Integer> nodes = new ArrayList<>();
        for (int node : new int[] {from, (from + 1) % 4, (from + 2) % 4, (from + 3) % 4}) {
            if (!w.down.contains(node)) {
                nodes.add(node);
            }
        }
        return nodes.subList(0, Math.min(reach, nodes.size()));
    }

    private int spread(int node, int key, boolean grave, int value) {
        if (w.down.contains(node)) {
            return -4;
        }
        remember(w.copy());
        w.stamps++;
        Fact fact = new Fact(grave, value, w.stamps, w.tick, w.tick);
        w.truths.put(key, fact);
        List<Integer> nodes = reached(node, w.settings.get(0));
        for (int each : nodes) {
            w.nodes.get(each).put(key, fact);
        }
        return nodes.size();
    }

    int write(int node, int key, int value) {
        if (!in(node, 0, 3) || !in(key, 0, 7)) {
            return -1;
        }
        return in(value, 0, 99) ? spread(node, key, false, value) : -2;
    }

    int delete(int node, int key) {
        if (!in(node, 0, 3) || !in(key, 0, 7)) {
            return -1;
        }
        return spread(node, key, true, -7);
    }

    private int stamp(int node, int key) {
        Fact fact = w.nodes.get(node).get(key);
        return fact == null ? 0 : fact.stamp();
    }

    private boolean haunted(int node, int key) {
        Fact fact = w.nodes.get(node).get(key);
        return fact != null && !fact.grave() && w.truths.get(key).grave();
    }

    /** Lets a node know a fact that is newer than its own; tells whether it was. */
    private boolean tell(int node, int key, Fact fact) {
        if (fact == null || fact.stamp() <= stamp(node, key)) {
            return false;
        }
        boolean before = haunted(node, key);
        w.nodes.get(node).put(key,
            new Fact(fact.grave(), fact.value(), fact.stamp(), fact.tick(), w.tick));
        if (haunted(node, key) && !before) {
            w.events.add(new Event(2, w.tick, node, key));
        }
        return true;
    }

    int read(int node, int key) {
        if (!in(node, 0, 3) || !in(key, 0, 7)) {
            return -1;
        }
        if (w.down.contains(node)) {
            return -4;
        }
        List<Integer> nodes = reached(node, w.settings.get(1));
        Fact newest = null;
        for (int each : nodes) {
            Fact fact = w.nodes.get(each).get(key);
            if (fact != null && (newest == null || fact.stamp() > newest.stamp())) {
                newest = fact;
            }
        }
        World before = w.copy();
        boolean mended = false;
        if (w.settings.get(4) == 1) {
            for (int each : nodes) {
                mended |= tell(each, key, newest);
            }
        }
        if (mended) {
            remember(before);
        }
        return newest == null || newest.grave() ? -5 : newest.value();
    }

    private int join(int one, int other) {
        w.events.add(new Event(0, w.tick, Math.min(one, other), Math.max(one, other)));
        w.repairs.put(Set.of(one, other), w.tick);
        int changed = 0;
        for (int key = 0; key < 8; key++) {
            Fact mine = w.nodes.get(one).get(key);
            Fact theirs = w.nodes.get(other).get(key);
            changed += bit(tell(one, key, theirs) | tell(other, key, mine));
        }
        return changed;
    }

    int repair(int one, int other) {
        if (!in(one, 0, 3) || !in(other, 0, 3)) {
            return -1;
        }
        if (one == other) {
            return -2;
        }
        if (w.down.contains(one) || w.down.contains(other)) {
            return -4;
        }
        remember(w.copy());
        return join(one, other);
    }

    private boolean ripe(int node, int key) {
        Fact fact = w.nodes.get(node).get(key);
        return fact != null && fact.grave() && w.tick >= fact.tick() + w.settings.get(2);
    }

    private List<Integer> clearable(int node) {
        List<Integer> keys = new ArrayList<>();
        for (int key = 0; key < 8; key++) {
            boolean clears = ripe(node, key);
            for (int other = 0; other < 4 && w.settings.get(3) == 1; other++) {
                if (clears && other != node) {
                    Integer tick = w.repairs.get(Set.of(node, other));
                    clears = tick != null && tick > w.nodes.get(node).get(key).learned();
                }
            }
            if (clears) {
                keys.add(key);
            }
        }
        return keys;
    }

    int clear(int node) {
        if (!in(node, 0, 3)) {
            return -1;
        }
        if (w.down.contains(node)) {
            return -4;
        }
        List<Integer> keys = clearable(node);
        if (keys.isEmpty()) {
            return -5;
        }
        remember(w.copy());
        w.nodes.get(node).keySet().removeAll(new HashSet<>(keys));
        w.events.add(new Event(3, w.tick, node, keys.size()));
        return keys.size();
    }

    int plan(int one, int other, int tick) {
        if (!in(one, 0, 3) || !in(other, 0, 3)) {
            return -1;
        }
        if (!in(tick, 0, 9999) || one == other) {
            return -2;
        }
        if (w.plan.size() == 10) {
            return -3;
        }
        remember(w.copy());
        w.plan.add(new Repair(one, other, tick));
        return w.plan.size();
    }

    private static boolean isPlan(String text) {
        for (String piece : text.split(",", -1)) {
            if (!PIECE.matcher(piece).matches()) {
                return false;
            }
        }
        return true;
    }

    private static boolean canGoOn(String text) {
        for (String end : ENDS) {
            if (isPlan(text + end)) {
                return true;
            }
        }
        return false;
    }

    int readPlan() {
        String all = text.toString();
        for (int i = 0; i < all.length(); i++) {
            if (!canGoOn(all.substring(0, i + 1))) {
                return -100 - i;
            }
        }
        if (!isPlan(all)) {
            return -100 - all.length();
        }
        remember(w.copy());
        w.plan.clear();
        for (String piece : all.split(",")) {
            w.plan.add(new Repair(Integer.parseInt(piece.substring(0, 1)),
                Integer.parseInt(piece.substring(2, 3)), Integer.parseInt(piece.substring(4))));
        }
        return w.plan.size();
    }

    int pass(int ticks) {
        if (!in(ticks, 1, 99)) {
            return -2;
        }
        if (w.tick + ticks > 99999) {
            return -3;
        }
        remember(w.copy());
        int done = 0;
        for (int i = 0; i < ticks; i++) {
            w.tick++;
            for (Repair each : w.plan) {
                if (each.tick() != w.tick) {
                    continue;
                }
                if (w.down.contains(each.one()) || w.down.contains(each.other())) {
                    w.events.add(new Event(1, w.tick, Math.min(each.one(), each.other()),
                        Math.max(each.one(), each.other())));
                } else {
                    join(each.one(), each.other());
                    done++;
                }
            }
        }
        return done;
    }

    int type(char character) {
        if (text.length() == 60) {
            return -3;
        }
        return text.append(character).length();
    }

    int clearText() {
        int length = text.length();
        text.setLength(0);
        return length;
    }

    int undo() {
        if (past.isEmpty()) {
            return -5;
        }
        w = past.remove(past.size() - 1);
        return past.size();
    }

    int keep() {
        kept = w.copy();
        return w.tick;
    }

    int restore() {
        if (kept == null) {
            return -5;
        }
        remember(w);
        w = kept.copy();
        return w.tick;
    }

    private static int kind(Fact fact) {
        return fact == null ? 0 : fact.grave() ? 2 : 1;
    }

    int known(int node, int key, int what) {
        if (!in(node, 0, 3) || !in(key, 0, 7)) {
            return -1;
        }
        Fact fact = w.nodes.get(node).get(key);
        return switch (what) {
            case 0 -> kind(fact);
            case 1 -> kind(fact) == 1 ? fact.value() : -5;
            case 2 -> fact == null ? -5 : fact.stamp();
            case 3 -> fact == null ? -5 : fact.tick();
            case 4 -> bit(ripe(node, key));
            case 5 -> bit(haunted(node, key));
            case 6 -> fact == null ? -5 : fact.learned();
            default -> -2;
        };
    }

    private boolean settled(int key, int stamp) {
        for (int node = 0; node < 4; node++) {
            if (stamp(node, key) < stamp) {
                return false;
            }
        }
        return true;
    }

    int truth(int key, int what) {
        if (!in(key, 0, 7)) {
            return -1;
        }
        Fact fact = w.truths.get(key);
        int know = 0;
        int haunted = 0;
        for (int node = 0; node < 4; node++) {
            know += bit(stamp(node, key) == (fact == null ? 0 : fact.stamp()));
            haunted += bit(haunted(node, key));
        }
        return switch (what) {
            case 0 -> kind(fact);
            case 1 -> kind(fact) == 1 ? fact.value() : -5;
            case 2 -> know;
            case 3 -> haunted;
            case 4 -> bit(kind(fact) == 2 && know == 4);
            default -> -2;
        };
    }

    int node(int node, int what) {
        if (!in(node, 0, 3)) {
            return -1;
        }
        int values = 0;
        int graves = 0;
        int ripe = 0;
        int haunts = 0;
        for (int key = 0; key < 8; key++) {
            int kind = kind(w.nodes.get(node).get(key));
            values += bit(kind == 1);
            graves += bit(kind == 2);
            ripe += bit(ripe(node, key));
            haunts += bit(haunted(node, key));
        }
        return switch (what) {
            case 0 -> bit(!w.down.contains(node));
            case 1 -> values;
            case 2 -> graves;
            case 3 -> ripe;
            case 4 -> clearable(node).size();
            case 5 -> haunts;
            default -> -2;
        };
    }

    int pair(int one, int other, int what) {
        if (!in(one, 0, 3) || !in(other, 0, 3)) {
            return -1;
        }
        if (!in(what, 0, 1) || one == other) {
            return -2;
        }
        if (what == 0) {
            return w.repairs.getOrDefault(Set.of(one, other), -5);
        }
        int keys = 0;
        for (int key = 0; key < 8; key++) {
            keys += bit(stamp(one, key) != stamp(other, key));
        }
        return keys;
    }

    int slowest() {
        int best = 0;
        int bestTick = Integer.MAX_VALUE;
        for (int pair : new int[] {1, 2, 3, 6, 7, 11}) {
            int tick = w.repairs.getOrDefault(Set.of(pair / 4, pair % 4), -1);
            if (tick < bestTick) {
                best = pair;
                bestTick = tick;
            }
        }
        return best;
    }

    private Map<Integer, Fact> unsettled() {
        Map<Integer, Fact> graves = new HashMap<>();
        for (int node = 0; node < 4; node++) {
            w.nodes.get(node).forEach((key, fact) -> {
                if (fact.grave() && !settled(key, fact.stamp())) {
                    graves.put(fact.stamp(), fact);
                }
            });
        }
        return graves;
    }

    int graceNeeded() {
        int grace = 1;
        while (true) {
            boolean anyRipe = false;
            for (Fact fact : unsettled().values()) {
                anyRipe |= w.tick - fact.tick() >= grace;
            }
            if (!anyRipe) {
                return grace;
            }
            grace++;
        }
    }

    int event(int back, int what) {
        if (back < 0 || !in(what, 0, 3)) {
            return -2;
        }
        if (back >= 10 || back >= w.events.size()) {
            return -5;
        }
        Event event = w.events.get(w.events.size() - 1 - back);
        return switch (what) {
            case 0 -> event.kind();
            case 1 -> event.tick();
            case 2 -> event.first();
            default -> event.second();
        };
    }

    int planned(int place, int what) {
        if (place < 0 || !in(what, 0, 2)) {
            return -2;
        }
        if (place >= w.plan.size()) {
            return -5;
        }
        Repair repair = w.plan.get(place);
        return what == 0 ? repair.one() : what == 1 ? repair.other() : repair.tick();
    }

    private int eventsOf(int kind) {
        return (int) w.events.stream().filter(event -> event.kind() == kind).count();
    }

    private int sumOfNodes(int what) {
        return node(0, what) + node(1, what) + node(2, what) + node(3, what);
    }

    private int hauntingKeys() {
        int keys = 0;
        for (int key = 0; key < 8; key++) {
            keys += bit(truth(key, 3) > 0);
        }
        return keys;
    }

    int count(int what) {
        return switch (what) {
            case 0 -> w.tick;
            case 1 -> w.stamps;
            case 2, 3, 4, 5 -> eventsOf(what - 2);
            case 6 -> sumOfNodes(2);
            case 7 -> hauntingKeys();
            case 8 -> w.plan.size();
            case 9 -> 4 - w.down.size();
            case 10 -> unsettled().size();
            case 11 -> past.size();
            case 12 -> text.length();
            default -> -2;
        };
    }

    int setting(int which) {
        return in(which, 0, 4) ? w.settings.get(which) : -1;
    }
}
