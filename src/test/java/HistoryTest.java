import java.util.List;
import java.util.function.UnaryOperator;

/** Promises 14 (undo), 15 (keep) and 16 (restore), and which calls are acts. */
public final class HistoryTest {
    private static final Due due = new Due();

    public static void main(String[] args) {
        fourStates();
        allOfTheState();
        stepByStep();
        droppedEventsComeBack();
        snapshots();
        snapshotsAndHistory();
        due.end();
    }

    private static void fourStates() {
        KeyGraves x = new KeyGraves();
        due.is("undo() of nothing", x.undo(), -5);
        for (int i = 1; i <= 6; i++) {
            x.pass(i);
            due.is("states", x.count(11), Math.min(i, 4));
        }
        due.is("the tick", x.count(0), 21);
        due.is("undo() 1", x.undo(), 3);
        due.is("the tick then", x.count(0), 15);
        due.is("undo() 2", x.undo(), 2);
        due.is("undo() 3", x.undo(), 1);
        due.is("undo() 4", x.undo(), 0);
        due.is("the oldest that was kept", x.count(0), 3);
        due.is("undo() 5", x.undo(), -5);
        due.is("nothing changes", x.count(0), 3);
        x.pass(2);
        due.is("recorded again", x.count(11), 1);
        due.is("undo() 6", x.undo(), 0);
        due.is("back again", x.count(0), 3);
    }

    private static void allOfTheState() {
        Run before = new Run(due).set(0, 4).write(0, 0, 5).set(2, 1).plan(0, 1, 1).plan(2, 1, 1);
        Run run = new Run(due).like(before).setUp(3, false).changes().delete(0, 0).pass(1).clear(1);
        run.undo().due(3).undo().due(2).count(1).due(2).undo().due(1).count(1).due(1).undo().due(0);
        run.stateAsBehind(before).delete(3, 1).due(4).known(2, 1, 2).due(2);
    }

    /** Acts of every kind, each of which lets the object tell something else. */
    private static List<UnaryOperator<Run>> acts() {
        return List.of(
            run -> run.plan(3, 2, 1), run -> run.write(0, 0, 11), run -> run.pass(1),
            run -> run.repair(0, 3), run -> run.write(3, 0, 12), run -> run.set(2, 1),
            run -> run.delete(1, 0), run -> run.pass(1), run -> run.repair(0, 1),
            run -> run.read(2, 0), run -> run.setUp(0, false), run -> run.clear(1),
            run -> run.repair(1, 3), run -> run.setUp(0, true), run -> run.setUp(3, false),
            run -> run.readPlan(), run -> run.pass(1), run -> run.write(2, 7, 13),
            run -> run.pass(3), run -> run.write(2, 7, 14), run -> run.read(1, 7),
            run -> run.restore());
    }

    private static void stepByStep() {
        Run run = new Run(due).keep().typed("1-0@3,1-3@3,2-1@6");
        for (UnaryOperator<Run> act : acts()) {
            act.apply(run);
            run.act(run.answer()).changes();
        }
    }

    private static void droppedEventsComeBack() {
        Run before = new Run(due).plan(3, 2, 1).setUp(2, false).pass(1);
        for (int i = 0; i < 9; i++) {
            before.repair(0, 1);
        }
        Run run = new Run(due).like(before).event(9, 0).due(1).event(9, 2).due(2).event(9, 3).due(3);
        run.pass(1).repair(0, 3).event(9, 0).due(0).event(9, 2).due(0).event(9, 3).due(1)
            .undo().undo().stateAsBehind(before);
    }

    private static void snapshots() {
        Run kept = new Run(due).pass(8);
        Run run = new Run(due).restore().refused(Edges.NONE).like(kept).keep().due(8).count(11).due(1);
        run.pass(4).write(1, 1, 1).restore().act(8).stateAsBehind(kept).restore().act(8);
        run.write(2, 2, 2).restore().act(8).stateAsBehind(kept).pass(1).keep().due(9).pass(1)
            .restore().act(9);
    }

    private static void snapshotsAndHistory() {
        KeyGraves x = new KeyGraves();
        x.keep();
        x.pass(3);
        x.restore();
        due.is("undo() of restore()", x.undo(), 1);
        due.is("the tick before it", x.count(0), 3);
        x.undo();
        due.is("undo() leaves the snapshot", x.restore(), 0);
        x.set(2, 9);
        x.keep();
        x.undo();
        due.is("not undone", x.setting(2), 50);
        x.restore();
        due.is("settings are kept", x.setting(2), 9);
        x.undo();
        due.is("and undone", x.setting(2), 50);
    }
}
