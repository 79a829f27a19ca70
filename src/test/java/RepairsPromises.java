/** Promises 7 (repair) and 8 (clear). */
final class RepairsPromises {
    private RepairsPromises() {
    }

    static void tell(Sentences all) {
        all.in("Promise 7")
            .test("Repairs two nodes. This is an act.", RepairsPromises::repairIsAnAct)
            .test("`one`: a node", due -> Edges.refuseNodes(due, (run, one) -> run.repair(one, 0)))
            .test("`other`: another node", RepairsPromises::repairOfEachPair)
            .test("how many keys were known otherwise by either of them",
                RepairsPromises::repairCountsKeys)
            .test("UNKNOWN (one or other)", RepairsPromises::repairOfNoNode)
            .test("BAD_VALUE if both are the same", RepairsPromises::repairOfTheSameNode)
            .test("NOT_POSSIBLE if either is down.", RepairsPromises::repairOfANodeThatIsDown);
        all.in("Promise 8")
            .test("Clears a node. This is an act.", RepairsPromises::clearIsAnAct)
            .test("`node`: a node", RepairsPromises::clearOfEachNode)
            .test("how many graves it clears", RepairsPromises::clearCountsGraves)
            .test("UNKNOWN", due -> Edges.refuseNodes(due, Run::clear))
            .test("NOT_POSSIBLE if it is down", RepairsPromises::clearOfANodeThatIsDown)
            .test("NONE if there is none to be cleared.", RepairsPromises::clearOfNone);
    }

    private static void repairIsAnAct(Due due) {
        new Run(due).write(0, 0, 5).repair(0, 2).act(1).changes().undo().due(1).known(2, 0, 0).due(0)
            .pair(0, 2, 0).due(Edges.NONE).count(2).due(0).event(0, 0).due(Edges.NONE);
        // Also of two nodes that know the same.
        new Run(due).repair(0, 1).act(0).changes().repair(0, 1).act(0).changes().count(2).due(2);
        Run.full(due).repair(0, 1).act(Run.full(due).pair(0, 1, 1).answer());
    }

    private static void repairOfEachPair(Due due) {
        for (int one = 0; one <= 3; one++) {
            for (int other = 0; other <= 3; other++) {
                if (one != other) {
                    Run run = new Run(due).set(0, 1).write(one, 0, 5).write(other, 7, 6)
                        .repair(one, other).due(2);
                    for (int each = 0; each <= 3; each++) {
                        int known = each == one || each == other ? 1 : 0;
                        run.known(each, 0, 0).due(known).known(each, 7, 0).due(known);
                    }
                }
            }
        }
    }

    private static void repairCountsKeys(Due due) {
        Run run = new Run(due).set(0, 1).repair(0, 1).due(0);
        for (int key = 0; key <= 7; key++) {
            run.write(key % 2, key, 5);
        }
        run.repair(0, 1).due(8).repair(0, 1).due(0).delete(0, 3).repair(1, 0).due(1)
            .write(1, 0, 5).write(0, 7, 6).repair(1, 0).due(2);
        // The same value with another stamp is known otherwise; one that both know is not.
        new Run(due).write(0, 1, 4).set(0, 1).write(0, 0, 5).write(1, 0, 5).repair(0, 1).due(1);
        new Run(due).set(0, 1).write(0, 0, 5).write(1, 0, 6).delete(2, 0).repair(0, 1).due(1)
            .repair(0, 2).due(1).repair(1, 2).due(1);
    }

    private static void repairOfNoNode(Due due) {
        Edges.refuseNodes(due, (run, one) -> run.repair(one, 1));
        Edges.refuseNodes(due, (run, other) -> run.repair(1, other));
        Edges.refuseNodes(due, (run, both) -> run.repair(both, both));
    }

    private static void repairOfTheSameNode(Due due) {
        for (int node = 0; node <= 3; node++) {
            Run.full(due).repair(node, node).refused(Edges.BAD_VALUE);
            new Run(due).setUp(node, false).repair(node, node).refused(Edges.BAD_VALUE);
        }
    }

    private static void repairOfANodeThatIsDown(Due due) {
        for (int up = 0; up <= 2; up++) {
            Run.full(due).repair(3, up).refused(Edges.NOT_POSSIBLE).repair(up, 3)
                .refused(Edges.NOT_POSSIBLE);
        }
        Run.full(due).setUp(2, false).repair(2, 3).refused(Edges.NOT_POSSIBLE);
        Run.full(due).setUp(3, true).repair(3, 1).act(Run.full(due).pair(1, 3, 1).answer());
    }

    private static void clearIsAnAct(Due due) {
        new Run(due).delete(0, 0).pass(50).clear(0).act(1).changes().undo().due(2)
            .known(0, 0, 0).due(2).known(0, 0, 6).due(0).count(5).due(0)
            .event(0, 0).due(Edges.NONE).clear(0).due(1);
        Run.full(due).clear(1).act(2);
    }

    private static void clearOfEachNode(Due due) {
        for (int node = 0; node <= 3; node++) {
            Run run = new Run(due).set(0, 4).set(2, 1).delete(0, 5).pass(1).clear(node).due(1);
            for (int each = 0; each <= 3; each++) {
                run.known(each, 5, 0).due(each == node ? 0 : 2);
            }
            run.event(0, 2).due(node);
        }
    }

    private static void clearCountsGraves(Due due) {
        for (int graves = 1; graves <= 8; graves++) {
            Run run = new Run(due).set(2, 1);
            for (int key = 8 - graves; key <= 7; key++) {
                run.delete(0, key);
            }
            run.pass(1).node(0, 4).due(graves).clear(0).due(graves).node(0, 2).due(0)
                .event(0, 3).due(graves).clear(0).refused(Edges.NONE);
        }
        new Run(due).set(2, 2).delete(0, 0).pass(1).delete(0, 1).pass(1).clear(0).due(1);
    }

    private static void clearOfANodeThatIsDown(Due due) {
        Run.full(due).node(3, 4).due(1).clear(3).refused(Edges.NOT_POSSIBLE).setUp(3, true)
            .clear(3).act(1);
        // Also if there is none to be cleared.
        new Run(due).setUp(2, false).clear(2).refused(Edges.NOT_POSSIBLE);
    }

    private static void clearOfNone(Due due) {
        new Run(due).clear(0).refused(Edges.NONE).clear(3).refused(Edges.NONE);
        new Run(due).write(0, 0, 5).pass(99).clear(0).refused(Edges.NONE);
        new Run(due).delete(0, 0).pass(49).clear(0).refused(Edges.NONE).clear(2)
            .refused(Edges.NONE).pass(1).clear(2).refused(Edges.NONE).clear(0).due(1).clear(0)
            .refused(Edges.NONE);
        new Run(due).set(3, 1).delete(0, 0).pass(50).clear(0).refused(Edges.NONE);
    }
}
