import java.util.ArrayList;
import java.util.Arrays;
import java.util.List;
import java.util.function.ToIntFunction;

/**
 * A run of calls on a new object. It keeps its calls, so that it can tell how everything was before
 * the latest one, by making the run anew without it.
 */
final class Run {
    private static final int SHOWN_CALLS = 40;

    private final Due due;
    private final KeyGraves x = new KeyGraves();
    private final List<Call> calls = new ArrayList<>();
    private int answer = 0;

    Run(Due due) {
        this.due = due;
    }

    /** A run behind which nothing is empty, the history is full and node 3 is down. */
    static Run full(Due due) {
        return new Run(due).set(0, 3).set(2, 2)
            .write(0, 0, 11).write(2, 7, 22).delete(0, 1)
            .plan(0, 1, 1).plan(2, 3, 3).plan(1, 2, 4)
            .delete(3, 0).pass(2).clear(0).repair(0, 2).keep()
            .write(1, 5, 33).setUp(3, false).pass(1).set(1, 4)
            .typed("0-1@7,3-2@9999");
    }

    // ---- what is due

    /** The latest call answers this. */
    Run due(int want) {
        due.is(text(), answer, want);
        return this;
    }

    /** The latest call answers this, an error or NONE, and leaves everything as it was. */
    Run refused(int want) {
        due(want);
        due.same("everything behind " + text(),
            Telling.everything(calls), Telling.everything(before()));
        return this;
    }

    /** The latest call answers this, and has recorded the state that was before it. */
    Run act(int want) {
        due(want);
        Call states = new Call("count(11)", object -> object.count(11));
        int statesBefore = Telling.answer(before(), states);
        due.is("count(11) behind " + text(), Telling.answer(calls, states),
            Math.min(statesBefore + 1, 4));
        for (int undone = 0; undone <= Math.min(statesBefore, 3); undone++) {
            due.same("undo() number " + (undone + 1) + " behind " + text(),
                Telling.state(Telling.behind(calls, Telling.UNDO, undone + 1)),
                Telling.state(Telling.behind(before(), Telling.UNDO, undone)));
        }
        return this;
    }

    /** The latest call changes something of the state. */
    Run changes() {
        boolean same = Telling.state(calls).equals(Telling.state(before()));
        due.is("the state behind " + text() + " is the same: 1", same ? 1 : 0, 0);
        return this;
    }

    /** Everything is as it is behind another run. */
    Run asBehind(Run other) {
        due.same("everything behind " + text(),
            Telling.everything(calls), Telling.everything(other.calls));
        return this;
    }

    /** The state is as it is behind another run, whatever the history, the snapshot and the text. */
    Run stateAsBehind(Run other) {
        due.same("the state behind " + text(),
            Telling.state(calls), Telling.state(other.calls));
        return this;
    }

    int answer() {
        return answer;
    }

    private List<Call> before() {
        return calls.subList(0, calls.size() - 1);
    }

    private String text() {
        int first = Math.max(0, calls.size() - SHOWN_CALLS);
        StringBuilder text = new StringBuilder(first == 0 ? "" : ".. " + first + " calls, ");
        for (int i = first; i < calls.size(); i++) {
            text.append(i == first ? "" : ", ").append(calls.get(i).text());
        }
        return text.toString();
    }

    // ---- calls

    /** The same calls as another run made, on the object of this one. */
    Run like(Run other) {
        other.calls.forEach(this::call);
        return this;
    }

    private Run call(ToIntFunction<KeyGraves> on, String name, Object... arguments) {
        String list = Arrays.toString(arguments);
        return call(new Call(name + "(" + list.substring(1, list.length() - 1) + ")", on));
    }

    Run call(Call call) {
        if (calls.size() >= Telling.MOST_CALLS) {
            throw new IllegalStateException("more calls than the document promises");
        }
        calls.add(call);
        answer = call.on().applyAsInt(x);
        return this;
    }

    Run set(int which, int value) {
        return call(object -> object.set(which, value), "set", which, value);
    }

    Run setUp(int node, boolean up) {
        return call(object -> object.setUp(node, up), "setUp", node, up);
    }

    Run write(int node, int key, int value) {
        return call(object -> object.write(node, key, value), "write", node, key, value);
    }

    Run delete(int node, int key) {
        return call(object -> object.delete(node, key), "delete", node, key);
    }

    Run read(int node, int key) {
        return call(object -> object.read(node, key), "read", node, key);
    }

    Run repair(int one, int other) {
        return call(object -> object.repair(one, other), "repair", one, other);
    }

    Run clear(int node) {
        return call(object -> object.clear(node), "clear", node);
    }

    Run plan(int one, int other, int tick) {
        return call(object -> object.plan(one, other, tick), "plan", one, other, tick);
    }

    Run readPlan() {
        return call(KeyGraves::readPlan, "readPlan");
    }

    Run pass(int ticks) {
        return call(object -> object.pass(ticks), "pass", ticks);
    }

    /** So many ticks, also more than one call lets pass. */
    Run passed(int ticks) {
        for (int left = ticks; left > 0; left -= 99) {
            pass(Math.min(left, 99));
        }
        return this;
    }

    Run type(int character) {
        return call(object -> object.type((char) character), "type", character);
    }

    Run typed(String text) {
        for (int i = 0; i < text.length(); i++) {
            type(text.charAt(i));
        }
        return this;
    }

    Run clearText() {
        return call(KeyGraves::clearText, "clearText");
    }

    Run undo() {
        return call(Telling.UNDO);
    }

    Run keep() {
        return call(KeyGraves::keep, "keep");
    }

    Run restore() {
        return call(KeyGraves::restore, "restore");
    }

    Run known(int node, int key, int what) {
        return call(object -> object.known(node, key, what), "known", node, key, what);
    }

    Run truth(int key, int what) {
        return call(object -> object.truth(key, what), "truth", key, what);
    }

    Run node(int node, int what) {
        return call(object -> object.node(node, what), "node", node, what);
    }

    Run pair(int one, int other, int what) {
        return call(object -> object.pair(one, other, what), "pair", one, other, what);
    }

    Run slowest() {
        return call(KeyGraves::slowest, "slowest");
    }

    Run graceNeeded() {
        return call(KeyGraves::graceNeeded, "graceNeeded");
    }

    Run event(int back, int what) {
        return call(object -> object.event(back, what), "event", back, what);
    }

    Run planned(int place, int what) {
        return call(object -> object.planned(place, what), "planned", place, what);
    }

    Run count(int what) {
        return call(object -> object.count(what), "count", what);
    }

    Run setting(int which) {
        return call(object -> object.setting(which), "setting", which);
    }
}
