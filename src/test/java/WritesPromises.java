/** Promises 4 (write), 5 (delete) and 6 (read). */
final class WritesPromises {
    private WritesPromises() {
    }

    static void tell(Sentences all) {
        all.in("Promise 4")
            .test("Writes a value. This is an act.", WritesPromises::writeIsAnAct)
            .test("`node`: the node from which on it goes", WritesPromises::writeFromEachNode)
            .test("`key`: a key", WritesPromises::writeOfEachKey)
            .test("`value`: 0 to 99", WritesPromises::writeOfEachValue)
            .test("how many nodes it reaches", WritesPromises::writeCountsNodes)
            .test("UNKNOWN (node or key)", WritesPromises::writeOfNoNodeOrKey)
            .test("BAD_VALUE", due -> Edges.refuse(due, Edges.BAD_VALUE, 0, 99, (run, value) ->
                run.write(0, 0, value)))
            .test("NOT_POSSIBLE if the node is down.", WritesPromises::writeFromANodeThatIsDown);
        all.in("Promise 5")
            .test("Deletes a key. This is an act.", WritesPromises::deleteIsAnAct)
            .test("`node`: the node from which on it goes", WritesPromises::deleteFromEachNode)
            .test("`key`: a key", WritesPromises::deleteOfEachKey)
            .test("how many nodes it reaches", WritesPromises::deleteCountsNodes)
            .test("UNKNOWN (node or key)", WritesPromises::deleteOfNoNodeOrKey)
            .test("NOT_POSSIBLE if the node is down.", WritesPromises::deleteFromANodeThatIsDown);
        all.in("Promise 6")
            .test("Reads a key. This is an act if it mends any node.", WritesPromises::readIsAnAct)
            .test("`node`: the node from which on it goes", WritesPromises::readFromEachNode)
            .test("`key`: a key", WritesPromises::readOfEachKey)
            .test("the value", WritesPromises::readTellsTheValue)
            .test("NONE if it tells nothing or a grave (though nodes are mended)",
                WritesPromises::readOfNothingOrAGrave)
            .test("UNKNOWN (node or key)", WritesPromises::readOfNoNodeOrKey)
            .test("NOT_POSSIBLE if the node is down.", WritesPromises::readFromANodeThatIsDown);
    }

    private static void writeIsAnAct(Due due) {
        new Run(due).write(0, 0, 5).act(2).changes().undo().due(0).known(0, 0, 0).due(0)
            .truth(0, 0).due(0).count(1).due(0);
        // The same value once more is a write as each other one.
        new Run(due).write(0, 0, 5).write(0, 0, 5).act(2).changes().count(11).due(2).count(1).due(2);
        Run.full(due).write(0, 0, 11).act(3);
    }

    private static void writeFromEachNode(Due due) {
        for (int node = 0; node <= 3; node++) {
            Run run = new Run(due).set(0, 1).write(node, 0, 5).due(1);
            for (int each = 0; each <= 3; each++) {
                run.known(each, 0, 0).due(each == node ? 1 : 0);
            }
        }
        Run round = new Run(due).set(0, 3).write(2, 0, 5).due(3);
        round.known(2, 0, 0).due(1).known(3, 0, 0).due(1).known(0, 0, 0).due(1).known(1, 0, 0).due(0);
    }

    private static void writeOfEachKey(Due due) {
        for (int key = 0; key <= 7; key++) {
            Run run = new Run(due).write(1, key, 5).due(2);
            for (int each = 0; each <= 7; each++) {
                run.known(1, each, 0).due(each == key ? 1 : 0).truth(each, 0).due(each == key ? 1 : 0);
            }
        }
    }

    private static void writeOfEachValue(Due due) {
        for (int value = 0; value <= 99; value++) {
            new Run(due).write(0, 0, value).due(2).known(0, 0, 1).due(value).known(1, 0, 1).due(value)
                .truth(0, 1).due(value).read(0, 0).due(value);
        }
        new Run(due).write(0, 0, -1).refused(Edges.BAD_VALUE).write(0, 0, 100)
            .refused(Edges.BAD_VALUE);
    }

    private static void writeCountsNodes(Due due) {
        for (int reach = 1; reach <= 4; reach++) {
            Run run = new Run(due).set(0, reach).write(0, 0, 5).due(reach);
            run.setUp(1, false).write(0, 0, 5).due(Math.min(reach, 3)).setUp(3, false)
                .write(0, 0, 5).due(Math.min(reach, 2)).setUp(2, false).write(0, 0, 5).due(1);
        }
    }

    private static void writeOfNoNodeOrKey(Due due) {
        Edges.refuseNodes(due, (run, node) -> run.write(node, 0, 5));
        Edges.refuseKeys(due, (run, key) -> run.write(0, key, 5));
    }

    private static void writeFromANodeThatIsDown(Due due) {
        Run.full(due).write(3, 0, 5).refused(Edges.NOT_POSSIBLE).setUp(3, true).write(3, 0, 5).act(3);
        // Other nodes that are down do not matter.
        Run.full(due).setUp(2, false).setUp(0, false).write(1, 0, 5).act(1).write(0, 0, 5)
            .refused(Edges.NOT_POSSIBLE);
    }

    private static void deleteIsAnAct(Due due) {
        new Run(due).write(0, 0, 5).delete(0, 0).act(2).changes().undo().due(1).known(0, 0, 1).due(5)
            .truth(0, 0).due(1).count(1).due(1);
        // A key that is nothing, or a grave already, can be deleted too.
        new Run(due).delete(0, 0).act(2).changes().known(0, 0, 0).due(2).delete(0, 0).act(2).changes()
            .known(0, 0, 2).due(2).count(1).due(2);
        Run.full(due).delete(0, 0).act(3);
    }

    private static void deleteFromEachNode(Due due) {
        for (int node = 0; node <= 3; node++) {
            Run run = new Run(due).set(0, 1).delete(node, 0).due(1);
            for (int each = 0; each <= 3; each++) {
                run.known(each, 0, 0).due(each == node ? 2 : 0);
            }
        }
        Run round = new Run(due).set(0, 3).delete(2, 0).due(3);
        round.known(2, 0, 0).due(2).known(3, 0, 0).due(2).known(0, 0, 0).due(2).known(1, 0, 0).due(0);
    }

    private static void deleteOfEachKey(Due due) {
        for (int key = 0; key <= 7; key++) {
            Run run = new Run(due).delete(1, key).due(2);
            for (int each = 0; each <= 7; each++) {
                run.known(1, each, 0).due(each == key ? 2 : 0).truth(each, 0).due(each == key ? 2 : 0);
            }
        }
    }

    private static void deleteCountsNodes(Due due) {
        for (int reach = 1; reach <= 4; reach++) {
            Run run = new Run(due).set(0, reach).delete(3, 0).due(reach);
            run.setUp(0, false).delete(3, 0).due(Math.min(reach, 3)).setUp(2, false)
                .delete(3, 0).due(Math.min(reach, 2)).setUp(1, false).delete(3, 0).due(1);
        }
    }

    private static void deleteOfNoNodeOrKey(Due due) {
        Edges.refuseNodes(due, (run, node) -> run.delete(node, 0));
        Edges.refuseKeys(due, (run, key) -> run.delete(0, key));
    }

    private static void deleteFromANodeThatIsDown(Due due) {
        Run.full(due).delete(3, 0).refused(Edges.NOT_POSSIBLE).setUp(3, true).delete(3, 0).act(3);
        Run.full(due).setUp(2, false).setUp(0, false).delete(1, 0).act(1).delete(2, 0)
            .refused(Edges.NOT_POSSIBLE);
    }

    /** Node 1 knows the value 5, node 3 a grave that is newer; the others know nothing. */
    private static Run apart(Due due) {
        return new Run(due).set(0, 1).write(1, 0, 5).delete(3, 0);
    }

    private static void readIsAnAct(Due due) {
        apart(due).read(0, 0).act(5).changes().undo().due(3).known(0, 0, 0).due(0);
        apart(due).read(2, 0).act(Edges.NONE).changes().undo().due(3).known(2, 0, 0).due(0);
        // It mends one node of those that it reaches: the first, or the last.
        apart(due).read(1, 0).act(5).known(2, 0, 1).due(5);
        apart(due).set(1, 3).read(1, 0).act(Edges.NONE).known(1, 0, 0).due(2).known(2, 0, 0).due(2);
        // It mends none.
        apart(due).read(0, 0).read(0, 0).due(5).asBehind(apart(due).read(0, 0));
        apart(due).set(1, 1).read(1, 0).due(5).asBehind(apart(due).set(1, 1));
        apart(due).set(4, 0).read(0, 0).due(5).asBehind(apart(due).set(4, 0));
        apart(due).set(4, 0).read(2, 0).refused(Edges.NONE);
        apart(due).read(0, 7).refused(Edges.NONE);
    }

    private static void readFromEachNode(Due due) {
        for (int node = 0; node <= 3; node++) {
            Run run = new Run(due).set(0, 1).set(1, 1).write(node, 0, 5).read(node, 0).due(5);
            for (int each = 0; each <= 3; each++) {
                run.read(each, 0).due(each == node ? 5 : Edges.NONE);
            }
        }
        new Run(due).set(0, 1).write(1, 0, 5).set(1, 3).set(4, 0).read(3, 0).due(5)
            .read(2, 0).due(Edges.NONE).read(0, 0).due(5).read(1, 0).due(5);
    }

    private static void readOfEachKey(Due due) {
        Run run = new Run(due).set(0, 4);
        for (int key = 0; key <= 7; key++) {
            run.write(0, key, 90 + key);
        }
        for (int key = 0; key <= 7; key++) {
            run.read(3, key).due(90 + key);
        }
        new Run(due).set(0, 1).write(0, 0, 1).write(0, 7, 2).read(0, 7).due(2).known(1, 7, 0).due(1)
            .known(1, 0, 0).due(0);
    }

    private static void readTellsTheValue(Due due) {
        new Run(due).write(0, 0, 0).read(0, 0).due(0).write(0, 0, 99).read(0, 0).due(99)
            .read(2, 0).due(Edges.NONE).read(1, 0).due(99).read(2, 0).due(99);
    }

    private static void readOfNothingOrAGrave(Due due) {
        new Run(due).read(0, 0).refused(Edges.NONE);
        new Run(due).delete(0, 0).read(0, 0).refused(Edges.NONE);
        Run mended = apart(due).read(3, 0).act(Edges.NONE).changes();
        mended.known(0, 0, 0).due(2).known(0, 0, 2).due(2).known(1, 0, 1).due(5);
        new Run(due).set(0, 1).set(2, 1).delete(0, 0).pass(1).clear(0).read(0, 0).refused(Edges.NONE);
    }

    private static void readOfNoNodeOrKey(Due due) {
        Edges.refuseNodes(due, (run, node) -> run.read(node, 0));
        Edges.refuseKeys(due, (run, key) -> run.read(0, key));
    }

    private static void readFromANodeThatIsDown(Due due) {
        Run.full(due).read(3, 7).refused(Edges.NOT_POSSIBLE).setUp(3, true).read(3, 7).due(22);
        Run.full(due).setUp(0, false).setUp(1, false).read(2, 7).due(22).read(0, 7)
            .refused(Edges.NOT_POSSIBLE);
    }
}
