/** Promises 14 (undo), 15 (keep) and 16 (restore). */
final class HistoryPromises {
    private HistoryPromises() {
    }

    static void tell(Sentences all) {
        all.in("Promise 14")
            .test("Removes and restores the latest state of the history.",
                HistoryPromises::undoRemovesAndRestores)
            .test("the number of states that are left", HistoryPromises::undoTellsWhatIsLeft)
            .test("NONE if the history is empty.", HistoryPromises::undoOfAnEmptyHistory);
        all.in("Promise 15")
            .test("Takes a snapshot of the state, in place of the one that was.",
                HistoryPromises::keepTakesASnapshot)
            .test("the tick.", HistoryPromises::keepTellsTheTick);
        all.in("Promise 16")
            .test("Restores the state of the snapshot, which stays. This is an act.",
                HistoryPromises::restoreIsAnAct)
            .test("the tick then", HistoryPromises::restoreTellsTheTick)
            .test("NONE if there is no snapshot.", HistoryPromises::restoreOfNoSnapshot);
    }

    private static void undoRemovesAndRestores(Due due) {
        Run.full(due).pass(99).undo().stateAsBehind(Run.full(due)).undo().undo().undo().due(0)
            .undo().refused(Edges.NONE);
        Run.full(due).write(0, 0, 1).delete(1, 2).undo().stateAsBehind(Run.full(due).write(0, 0, 1))
            .undo().stateAsBehind(Run.full(due));
        // A read that mends is undone as well, and a repair with all that it let come back.
        new Run(due).set(0, 1).write(1, 0, 5).delete(2, 0).repair(0, 1).count(4).due(1).undo()
            .count(4).due(0).count(2).due(0).event(0, 0).due(Edges.NONE).known(0, 0, 0).due(0)
            .read(0, 0).due(5).count(4).due(1).undo().count(4).due(0).known(0, 0, 0).due(0);
        // An event that was dropped for a newer one is known again.
        Run events = new Run(due).pass(1);
        for (int i = 0; i < 10; i++) {
            events.repair(0, 1).pass(1);
        }
        events.event(9, 1).due(1).repair(2, 3).event(9, 1).due(2).undo().event(9, 1).due(1)
            .event(0, 1).due(10).event(10, 1).due(Edges.NONE);
    }

    private static void undoTellsWhatIsLeft(Due due) {
        new Run(due).pass(1).undo().due(0);
        new Run(due).pass(1).pass(1).pass(1).undo().due(2).pass(1).undo().due(2).undo().due(1);
        new Run(due).pass(1).pass(1).pass(1).pass(1).undo().due(3).undo().due(2).undo().due(1)
            .undo().due(0);
        // Five were recorded, four are kept.
        new Run(due).pass(1).pass(1).pass(1).pass(1).pass(1).undo().due(3).undo().due(2).undo().due(1)
            .undo().due(0).count(0).due(1).undo().refused(Edges.NONE);
    }

    private static void undoOfAnEmptyHistory(Due due) {
        new Run(due).undo().refused(Edges.NONE).undo().refused(Edges.NONE);
        new Run(due).typed("0-1@5").keep().undo().refused(Edges.NONE);
        new Run(due).set(0, 2).read(0, 0).clear(0).pass(0).undo().refused(Edges.NONE);
        new Run(due).pass(7).undo().due(0).undo().refused(Edges.NONE).count(0).due(0);
        Run.full(due).undo().undo().undo().undo().due(0).undo().refused(Edges.NONE);
    }

    private static void keepTakesASnapshot(Due due) {
        Run.full(due).keep().pass(9).write(0, 0, 1).restore().stateAsBehind(Run.full(due));
        // In place of the one that was: the second one is restored, also behind undo().
        new Run(due).pass(1).keep().pass(1).keep().pass(1).restore().due(2).restore().due(2)
            .undo().undo().restore().due(2);
        // It is no act, and changes neither state nor history nor text.
        Run.full(due).keep().count(11).due(4).stateAsBehind(Run.full(due));
        new Run(due).typed("0-1@5").keep().due(0).undo().due(Edges.NONE).readPlan().due(1);
        new Run(due).pass(3).keep().asBehind(new Run(due).pass(3).keep().keep());
        // What is done then does not change the snapshot, not even undo().
        new Run(due).pass(3).keep().undo().write(0, 0, 5).restore().due(3).known(0, 0, 0).due(0);
    }

    private static void keepTellsTheTick(Due due) {
        new Run(due).keep().due(0).pass(1).keep().due(1).pass(99).keep().due(100).undo().keep().due(1)
            .restore().keep().due(1);
    }

    private static void restoreIsAnAct(Due due) {
        new Run(due).pass(2).keep().pass(3).restore().act(2).changes().undo().due(2).count(0).due(5)
            .restore().act(2);
        // It stays, and is no other one for what is done behind restore().
        new Run(due).keep().restore().act(0).write(0, 0, 5).restore().act(0).changes()
            .known(0, 0, 0).due(0).restore().act(0);
        Run.full(due).restore().act(2).changes();
        // Four times: the history holds no more, so that pass() is not undone.
        new Run(due).keep().pass(1).restore().restore().restore().restore().act(0).undo().due(3)
            .undo().undo().undo().due(0).count(0).due(1);
    }

    private static void restoreTellsTheTick(Due due) {
        new Run(due).pass(4).keep().pass(5).restore().due(4).count(0).due(4).pass(1).count(0).due(5);
        new Run(due).keep().pass(99).restore().due(0).count(0).due(0);
    }

    private static void restoreOfNoSnapshot(Due due) {
        new Run(due).restore().refused(Edges.NONE).pass(3).restore().refused(Edges.NONE)
            .undo().restore().refused(Edges.NONE).keep().restore().act(0);
        new Run(due).write(0, 0, 5).typed("0-1@5").restore().refused(Edges.NONE);
    }
}
