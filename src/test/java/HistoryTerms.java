import java.util.List;
import java.util.function.UnaryOperator;

/** Of the terms: history, errors, the constants. */
final class HistoryTerms {
    private HistoryTerms() {
    }

    static void tell(Sentences all) {
        all.in("Terms")
            .test("A history of at most 4 states is kept; when one more is recorded, the oldest one "
                + "is dropped", HistoryTerms::fourStates)
            .test("undo() removes and restores the latest one.", HistoryTerms::undoRestoresTheLatest)
            .test("Each call of a method that is described as an act, and returns no error and not "
                + "NONE (a read() that mends: also with NONE), records the state that was before it.",
                HistoryTerms::actsRecord)
            .test("(a read() that mends: also with NONE)", HistoryTerms::readsThatMendRecord)
            .test("There is one snapshot, empty at first.", HistoryTerms::oneSnapshot)
            .test("A state is everything but the text, the history and the snapshot.",
                HistoryTerms::whatAStateIs)
            .test("Errors are reported by the constants below.", HistoryTerms::constants)
            .test("Where several errors can apply, the order of the @return line is the order of the "
                + "checks.", HistoryTerms::orderOfTheChecks)
            .test("NONE is no error; it is returned only if no error applies.",
                HistoryTerms::noneOnlyWithoutErrors)
            .test("A call that returns an error or NONE changes nothing (but a read() that mends).",
                HistoryTerms::errorsAndNoneChangeNothing)
            .test("(but a read() that mends)", HistoryTerms::readsThatMendChange)
            .test("The constants: `UNKNOWN = -1`: There is no such node, key or setting.",
                HistoryTerms::unknown)
            .test("`BAD_VALUE = -2`: Another argument is out of range.", HistoryTerms::badValue)
            .test("`FULL = -3`: There is no more room.", HistoryTerms::full)
            .test("`NOT_POSSIBLE = -4`: This is not possible (a node is down).",
                HistoryTerms::notPossible)
            .test("`NONE = -5`: There is no such thing; not an error.", HistoryTerms::none);
        String headings = "a heading in the interface, which no call can tell";
        all.untested("Ahead of the calls `set`, `setUp` the interface says: ---- settings.", headings)
            .untested("Ahead of the calls `write`, `delete`, `read` the interface says: ---- writes "
                + "and reads.", headings)
            .untested("Ahead of the calls `repair`, `clear`, `plan`, `readPlan`, `pass` the interface "
                + "says: ---- repairs and graves.", headings)
            .untested("Ahead of the calls `type`, `clearText` the interface says: ---- texts.",
                headings)
            .untested("Ahead of the calls `undo`, `keep`, `restore` the interface says: ---- "
                + "history.", headings)
            .untested("Ahead of the calls `known`, `truth`, `node`, `pair`, `slowest`, "
                + "`graceNeeded`, `event`, `planned`, `count`, `setting` the interface says: ---- "
                + "what is told.", headings);
    }

    private static void fourStates(Due due) {
        for (int acts = 0; acts <= 9; acts++) {
            Run run = new Run(due);
            for (int i = 1; i <= acts; i++) {
                run.pass(i).count(11).due(Math.min(i, 4));
            }
            int kept = Math.min(acts, 4);
            for (int left = kept - 1; left >= 0; left--) {
                int tick = acts - kept + left;
                run.undo().due(left).count(11).due(left).count(0).due(tick * (tick + 1) / 2);
            }
            run.undo().refused(Edges.NONE);
        }
    }

    private static void undoRestoresTheLatest(Due due) {
        new Run(due).pass(3).pass(5).undo().due(1).count(0).due(3).count(11).due(1)
            .undo().due(0).count(0).due(0).undo().due(Edges.NONE);
        // It is removed: what is recorded then stands in its place.
        Run run = new Run(due).pass(1).pass(2).undo().pass(4).count(0).due(5).undo().due(1)
            .count(0).due(1).undo().count(0).due(0);
        run.undo().refused(Edges.NONE);
        // No call brings back what was undone.
        new Run(due).pass(7).undo().undo().due(Edges.NONE).count(0).due(0);
    }

    /** Acts of every kind, each possible behind the full run, also when some of it is undone. */
    private static List<UnaryOperator<Run>> acts() {
        return List.of(
            run -> run.set(0, 1), run -> run.set(4, 0), run -> run.setUp(0, false),
            run -> run.write(0, 0, 0), run -> run.write(1, 5, 33),
            run -> run.delete(0, 0), run -> run.delete(2, 7), run -> run.repair(0, 1),
            run -> run.repair(2, 1), run -> run.clear(0), run -> run.clear(1),
            run -> run.plan(0, 1, 0), run -> run.readPlan(), run -> run.pass(1),
            run -> run.pass(99), run -> run.restore(), run -> run.read(2, 0));
    }

    private static void actsRecord(Due due) {
        for (UnaryOperator<Run> act : acts()) {
            Run behindFour = act.apply(Run.full(due));
            behindFour.act(behindFour.answer());
            Run behindOne = act.apply(Run.full(due).undo().undo().undo());
            behindOne.act(behindOne.answer());
        }
        Run.full(due).setUp(3, true).act(4);
        // What is told is no act.
        Run asked = Run.full(due);
        for (Call question : Telling.allQuestions()) {
            asked.call(question);
        }
        asked.asBehind(Run.full(due));
        // Also acts that let the state be as it was.
        new Run(due).keep().restore().act(0).restore().act(0).count(11).due(2);
        new Run(due).typed("0-1@5").readPlan().act(1).readPlan().act(1).count(11).due(2);
    }

    private static void readsThatMendRecord(Due due) {
        new Run(due).set(0, 1).delete(1, 0).read(0, 0).act(Edges.NONE).count(11).due(3)
            .undo().due(2).known(0, 0, 0).due(0);
        new Run(due).set(0, 1).write(1, 0, 5).read(0, 0).act(5).count(11).due(3)
            .undo().due(2).known(0, 0, 0).due(0);
        // Reads that mend no node record nothing.
        new Run(due).write(0, 0, 5).read(0, 0).due(5).count(11).due(1);
        new Run(due).delete(0, 0).read(0, 0).refused(Edges.NONE).count(11).due(1);
        new Run(due).set(0, 1).set(4, 0).write(1, 0, 5).read(0, 0).due(5).count(11).due(3);
        new Run(due).read(0, 0).refused(Edges.NONE).count(11).due(0);
    }

    private static void oneSnapshot(Due due) {
        new Run(due).restore().refused(Edges.NONE);
        new Run(due).pass(1).pass(2).undo().restore().refused(Edges.NONE);
        new Run(due).keep().pass(1).keep().pass(1).restore().due(1).restore().due(1)
            .undo().undo().undo().count(0).due(1).restore().due(1);
    }

    private static void whatAStateIs(Due due) {
        // All of it comes back by undo() and by restore().
        Run.full(due).pass(1).undo().stateAsBehind(Run.full(due));
        Run other = Run.full(due).keep().setUp(3, true).set(0, 4).set(1, 1).set(2, 9).set(3, 1)
            .set(4, 0).write(0, 0, 1).delete(1, 1).repair(0, 3).plan(0, 3, 5).pass(5).clear(0)
            .restore();
        other.stateAsBehind(Run.full(due));
        eventsAreOfTheState(due);
        // The text and the snapshot stay, and the history is not what is restored.
        new Run(due).pass(1).typed("0-1@5").undo().due(0).count(12).due(5).readPlan().due(1);
        new Run(due).keep().typed("0-1@5").restore().count(12).due(5).readPlan().due(1);
        new Run(due).typed("0-1@5").keep().clearText().restore().count(12).due(0);
        new Run(due).pass(1).keep().undo().due(0).restore().due(1);
        new Run(due).pass(1).pass(1).keep().undo().undo().restore().count(11).due(1);
        new Run(due).keep().pass(1).pass(1).restore().count(11).due(3);
    }

    /** Events of all kinds are known again, when ten others have been known in their place. */
    private static void eventsAreOfTheState(Due due) {
        Run events = new Run(due).set(2, 1).set(0, 1).write(1, 6, 5).delete(3, 6).delete(3, 5)
            .plan(2, 0, 2).pass(1).clear(3).setUp(2, false).pass(1).repair(1, 3).repair(0, 1);
        for (int i = 0; i < 9; i++) {
            events.plan(2 + i % 2, 3 - i % 2 * 2, 3);
        }
        events.event(5, 0).due(3).event(4, 0).due(1).event(3, 0).due(0).event(2, 0).due(2);
        Run restored = new Run(due).like(events).keep().pass(1).due(4).repair(1, 0);
        restored.event(9, 0).due(1).event(10, 0).due(Edges.NONE);
        new Run(due).like(restored).undo().undo().stateAsBehind(events);
        restored.restore().stateAsBehind(events);
    }

    private static void constants(Due due) {
        due.is("UNKNOWN", KeyGraves.UNKNOWN, -1);
        due.is("BAD_VALUE", KeyGraves.BAD_VALUE, -2);
        due.is("FULL", KeyGraves.FULL, -3);
        due.is("NOT_POSSIBLE", KeyGraves.NOT_POSSIBLE, -4);
        due.is("NONE", KeyGraves.NONE, -5);
    }

    private static void orderOfTheChecks(Due due) {
        Run.full(due).set(5, -1).refused(Edges.UNKNOWN).set(-1, 501).refused(Edges.UNKNOWN);
        // Node 3 is down behind the full run.
        Run.full(due).write(4, 0, 100).refused(Edges.UNKNOWN).write(3, 8, 1).refused(Edges.UNKNOWN)
            .write(3, 8, -1).refused(Edges.UNKNOWN).write(3, 0, 100).refused(Edges.BAD_VALUE)
            .write(3, 0, -1).refused(Edges.BAD_VALUE).write(3, 0, 99).refused(Edges.NOT_POSSIBLE);
        Run.full(due).delete(3, 8).refused(Edges.UNKNOWN).delete(3, -1).refused(Edges.UNKNOWN)
            .delete(3, 7).refused(Edges.NOT_POSSIBLE);
        Run.full(due).read(3, 8).refused(Edges.UNKNOWN).read(3, -1).refused(Edges.UNKNOWN)
            .read(3, 7).refused(Edges.NOT_POSSIBLE);
        Run.full(due).repair(4, 4).refused(Edges.UNKNOWN).repair(-1, -1).refused(Edges.UNKNOWN)
            .repair(3, 4).refused(Edges.UNKNOWN).repair(-1, 3).refused(Edges.UNKNOWN)
            .repair(3, 3).refused(Edges.BAD_VALUE).repair(3, 2).refused(Edges.NOT_POSSIBLE);
        Run.full(due).plan(4, 4, 10000).refused(Edges.UNKNOWN).plan(0, -1, -1)
            .refused(Edges.UNKNOWN);
        Run tenPlanned = new Run(due);
        for (int i = 0; i < 10; i++) {
            tenPlanned.plan(0, 1, i);
        }
        tenPlanned.plan(0, 4, 5).refused(Edges.UNKNOWN).plan(4, 0, 5).refused(Edges.UNKNOWN)
            .plan(0, 1, -1).refused(Edges.BAD_VALUE).plan(0, 1, 10000).refused(Edges.BAD_VALUE)
            .plan(2, 2, 5).refused(Edges.BAD_VALUE).plan(0, 1, 5).refused(Edges.FULL);
        Run.full(due).known(4, 0, 7).refused(Edges.UNKNOWN).known(0, 8, -1).refused(Edges.UNKNOWN)
            .truth(8, 5).refused(Edges.UNKNOWN).node(4, 6).refused(Edges.UNKNOWN)
            .pair(4, 4, 0).refused(Edges.UNKNOWN).pair(0, 4, 2).refused(Edges.UNKNOWN)
            .pair(-1, 0, 2).refused(Edges.UNKNOWN).pair(0, 0, 2).refused(Edges.BAD_VALUE);
    }

    private static void noneOnlyWithoutErrors(Due due) {
        new Run(due).setUp(4, true).refused(Edges.UNKNOWN).setUp(0, true).refused(Edges.NONE);
        new Run(due).setUp(0, false).read(0, 0).refused(Edges.NOT_POSSIBLE)
            .read(1, 8).refused(Edges.UNKNOWN).read(1, 0).refused(Edges.NONE);
        new Run(due).setUp(0, false).clear(0).refused(Edges.NOT_POSSIBLE).clear(4)
            .refused(Edges.UNKNOWN).clear(1).refused(Edges.NONE);
        new Run(due).known(0, 0, 7).refused(Edges.BAD_VALUE).known(0, 8, 1).refused(Edges.UNKNOWN)
            .known(0, 0, 1).refused(Edges.NONE);
        new Run(due).truth(0, 5).refused(Edges.BAD_VALUE).truth(8, 1).refused(Edges.UNKNOWN)
            .truth(0, 1).refused(Edges.NONE);
        new Run(due).pair(0, 0, 0).refused(Edges.BAD_VALUE).pair(0, 4, 0).refused(Edges.UNKNOWN)
            .pair(0, 1, 0).refused(Edges.NONE);
        new Run(due).event(0, 4).refused(Edges.BAD_VALUE).event(-1, 0).refused(Edges.BAD_VALUE)
            .event(0, 0).refused(Edges.NONE);
        new Run(due).planned(0, 3).refused(Edges.BAD_VALUE).planned(-1, 0).refused(Edges.BAD_VALUE)
            .planned(0, 0).refused(Edges.NONE);
    }

    private static void errorsAndNoneChangeNothing(Due due) {
        Run.full(due).set(0, 3).refused(Edges.NONE).set(0, 5).refused(Edges.BAD_VALUE)
            .set(5, 1).refused(Edges.UNKNOWN).setUp(3, false).refused(Edges.NONE)
            .setUp(4, false).refused(Edges.UNKNOWN).write(3, 0, 5).refused(Edges.NOT_POSSIBLE)
            .write(0, 0, 100).refused(Edges.BAD_VALUE).write(0, 8, 5).refused(Edges.UNKNOWN)
            .delete(3, 0).refused(Edges.NOT_POSSIBLE).delete(4, 0).refused(Edges.UNKNOWN)
            .read(3, 0).refused(Edges.NOT_POSSIBLE).read(0, 3).refused(Edges.NONE)
            .read(0, 8).refused(Edges.UNKNOWN).repair(0, 3).refused(Edges.NOT_POSSIBLE)
            .repair(0, 0).refused(Edges.BAD_VALUE).repair(0, 4).refused(Edges.UNKNOWN)
            .clear(3).refused(Edges.NOT_POSSIBLE).clear(4).refused(Edges.UNKNOWN)
            .plan(0, 0, 0).refused(Edges.BAD_VALUE).plan(0, 4, 0).refused(Edges.UNKNOWN)
            .pass(0).refused(Edges.BAD_VALUE).pass(100).refused(Edges.BAD_VALUE);
        Run.full(due).clear(0).clear(0).refused(Edges.NONE);
        Run.full(due).type('x').readPlan().refused(-100 - 14).clearText().readPlan().refused(-100);
        Run.full(due).undo().undo().undo().undo().due(0).undo().refused(Edges.NONE);
        new Run(due).write(0, 0, 5).restore().refused(Edges.NONE);
        Run.full(due).known(3, 3, 1).refused(Edges.NONE).truth(3, 1).refused(Edges.NONE)
            .pair(1, 3, 0).refused(Edges.NONE).event(10, 0).refused(Edges.NONE)
            .planned(3, 0).refused(Edges.NONE).count(13).refused(Edges.BAD_VALUE)
            .setting(5).refused(Edges.UNKNOWN).node(0, 6).refused(Edges.BAD_VALUE);
    }

    private static void readsThatMendChange(Due due) {
        new Run(due).set(0, 1).delete(1, 0).read(0, 0).due(Edges.NONE).changes()
            .known(0, 0, 0).due(2).count(6).due(2);
    }

    private static void unknown(Due due) {
        due.is("UNKNOWN", KeyGraves.UNKNOWN, -1);
        new Run(due).node(4, 0).due(-1).truth(8, 0).due(-1).setting(5).due(-1);
    }

    private static void badValue(Due due) {
        due.is("BAD_VALUE", KeyGraves.BAD_VALUE, -2);
        new Run(due).write(0, 0, 100).due(-2).pass(0).due(-2).count(13).due(-2);
    }

    private static void full(Due due) {
        due.is("FULL", KeyGraves.FULL, -3);
        Run run = new Run(due);
        for (int i = 0; i < 10; i++) {
            run.plan(0, 1, 5);
        }
        run.plan(0, 1, 5).due(-3);
        for (int i = 0; i < 60; i++) {
            run.type('0');
        }
        run.type('0').due(-3);
    }

    private static void notPossible(Due due) {
        due.is("NOT_POSSIBLE", KeyGraves.NOT_POSSIBLE, -4);
        new Run(due).setUp(1, false).write(1, 0, 5).due(-4).delete(1, 0).due(-4).read(1, 0).due(-4)
            .repair(1, 0).due(-4).repair(0, 1).due(-4).clear(1).due(-4);
    }

    private static void none(Due due) {
        due.is("NONE", KeyGraves.NONE, -5);
        new Run(due).read(0, 0).due(-5).clear(0).due(-5).undo().due(-5).restore().due(-5)
            .pair(0, 1, 0).due(-5).event(0, 0).due(-5).planned(0, 0).due(-5).truth(0, 1).due(-5)
            .known(0, 0, 1).due(-5).set(0, 2).due(-5).setUp(0, true).due(-5);
    }
}
