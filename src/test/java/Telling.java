import java.util.ArrayList;
import java.util.List;

/**
 * What objects tell behind a run of calls. Each answer is asked of an object on which the run was
 * made anew, as often as it takes, so that no object is used for more calls than the document
 * promises.
 */
final class Telling {
    static final int MOST_CALLS = 512;
    static final Call UNDO = new Call("undo()", KeyGraves::undo);

    private static final Call RESTORE = new Call("restore()", KeyGraves::restore);
    private static final Call READ_PLAN = new Call("readPlan()", KeyGraves::readPlan);
    private static final List<Call> OF_THE_STATE = questions();
    private static final List<Call> BESIDE_THE_STATE = List.of(
        new Call("count(11)", x -> x.count(11)), new Call("count(12)", x -> x.count(12)));

    private Telling() {
    }

    private static List<Call> questions() {
        List<Call> all = new ArrayList<>();
        for (int node = 0; node < 4; node++) {
            for (int key = 0; key < 8; key++) {
                three(all, "known", KeyGraves::known, node, key, 6);
            }
            for (int other = 0; other < 4; other++) {
                if (other != node) {
                    three(all, "pair", KeyGraves::pair, node, other, 1);
                }
            }
            two(all, "node", KeyGraves::node, node, 5);
        }
        for (int key = 0; key < 8; key++) {
            two(all, "truth", KeyGraves::truth, key, 4);
        }
        for (int place = 0; place <= 10; place++) {
            two(all, "event", KeyGraves::event, place, 3);
            two(all, "planned", KeyGraves::planned, place, 2);
        }
        for (int each = 0; each <= 10; each++) {
            int what = each;
            all.add(new Call("count(" + what + ")", x -> x.count(what)));
        }
        for (int each = 0; each <= 4; each++) {
            int which = each;
            all.add(new Call("setting(" + which + ")", x -> x.setting(which)));
        }
        all.add(new Call("slowest()", KeyGraves::slowest));
        all.add(new Call("graceNeeded()", KeyGraves::graceNeeded));
        return all;
    }

    private interface OfThree {
        int on(KeyGraves x, int one, int other, int what);
    }

    private interface OfTwo {
        int on(KeyGraves x, int one, int what);
    }

    private static void three(List<Call> all, String name, OfThree call, int one, int other, int most) {
        for (int each = 0; each <= most; each++) {
            int what = each;
            all.add(new Call(name + "(" + one + ", " + other + ", " + what + ")",
                x -> call.on(x, one, other, what)));
        }
    }

    private static void two(List<Call> all, String name, OfTwo call, int one, int most) {
        for (int each = 0; each <= most; each++) {
            int what = each;
            all.add(new Call(name + "(" + one + ", " + what + ")", x -> call.on(x, one, what)));
        }
    }

    /** All that the told methods can be asked for, within their ranges. */
    static List<Call> allQuestions() {
        List<Call> all = new ArrayList<>(OF_THE_STATE);
        all.addAll(BESIDE_THE_STATE);
        return all;
    }

    static List<Call> behind(List<Call> run, Call last, int times) {
        List<Call> longer = new ArrayList<>(run);
        for (int i = 0; i < times; i++) {
            longer.add(last);
        }
        return longer;
    }

    private static KeyGraves made(List<Call> run) {
        KeyGraves x = new KeyGraves();
        for (Call call : run) {
            call.on().applyAsInt(x);
        }
        return x;
    }

    static int answer(List<Call> run, Call last) {
        return last.on().applyAsInt(made(run));
    }

    private static void ask(List<Call> run, List<Call> questions, List<String> told) {
        int room = MOST_CALLS - run.size();
        if (room < 1) {
            throw new IllegalStateException("no call is left for a question");
        }
        for (int from = 0; from < questions.size(); from += room) {
            KeyGraves x = made(run);
            for (Call each : questions.subList(from, Math.min(from + room, questions.size()))) {
                told.add(each.text() + " is " + each.on().applyAsInt(x));
            }
        }
    }

    /** All that is told of the state. */
    static List<String> state(List<Call> run) {
        List<String> told = new ArrayList<>();
        ask(run, OF_THE_STATE, told);
        return told;
    }

    /** All that is told of the state, the history, the snapshot and the text. */
    static List<String> everything(List<Call> run) {
        List<String> told = new ArrayList<>();
        ask(run, allQuestions(), told);
        for (int undone = 0; undone < 5; undone++) {
            toldBehind(behind(run, UNDO, undone), UNDO, "undo() number " + (undone + 1), told);
        }
        toldBehind(run, RESTORE, "restore()", told);
        toldBehind(run, READ_PLAN, "readPlan()", told);
        return told;
    }

    private static void toldBehind(List<Call> run, Call last, String name, List<String> told) {
        told.add(name + " is " + answer(run, last));
        for (String line : state(behind(run, last, 1))) {
            told.add("behind " + name + " " + line);
        }
    }
}
