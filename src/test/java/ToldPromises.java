/** Promises 17 (known), 18 (truth), 19 (node) and 20 (pair). */
final class ToldPromises {
    private ToldPromises() {
    }

    static void tell(Sentences all) {
        all.in("Promise 17")
            .test("`node`: a node", due -> Edges.refuseNodes(due, (run, node) -> run.known(node, 0, 0)))
            .test("`key`: a key", due -> Edges.refuseKeys(due, (run, key) -> run.known(0, key, 0)))
            .test("`what`: 0 for what it knows (0 nothing, 1 a value, 2 a grave)",
                ToldPromises::whatItKnows)
            .test("1 for the value", ToldPromises::valueThatItKnows)
            .test("2 for the stamp, 3 for the tick (1: NONE without a value; 2, 3: NONE without "
                + "either)", ToldPromises::stampAndTickThatItKnows)
            .test("4 for whether it is a ripe grave (1, otherwise 0)", ToldPromises::ripeGrave)
            .test("5 for whether it is haunted (1, otherwise 0)", ToldPromises::hauntedByIt)
            .test("6 for the tick in which it came to know that (NONE if it knows nothing)",
                ToldPromises::tickOfComingToKnow)
            .test("the number", ToldPromises::knownOfEachWhat)
            .test("UNKNOWN (node or key)", ToldPromises::knownOfNoNodeOrKey)
            .test("BAD_VALUE.", due -> Edges.refuse(due, Edges.BAD_VALUE, 0, 6, (run, what) ->
                run.known(0, 0, what)));
        all.in("Promise 18")
            .test("Tells the truth of a key.", ToldPromises::truthOfAKey)
            .test("`key`: a key", due -> Edges.refuseKeys(due, (run, key) -> run.truth(key, 1)))
            .test("`what`: 0 for what it is (0 nothing, 1 a value, 2 a grave)",
                ToldPromises::whatTheTruthIs)
            .test("1 for the value (NONE without one)", ToldPromises::valueOfTheTruth)
            .test("2 for how many nodes know it (of nothing: how many know nothing)",
                ToldPromises::nodesThatKnowTheTruth)
            .test("3 for how many are haunted by it", ToldPromises::nodesThatAreHaunted)
            .test("4 for whether it is a settled grave (1, otherwise 0; a node that cleared it does "
                + "not know it)", ToldPromises::settledTruth)
            .test("the number", ToldPromises::truthOfEachWhat)
            .test("UNKNOWN", due -> Edges.refuseKeys(due, (run, key) -> run.truth(key, 0)))
            .test("BAD_VALUE.", due -> Edges.refuse(due, Edges.BAD_VALUE, 0, 4, (run, what) ->
                run.truth(0, what)));
        all.in("Promise 19")
            .test("`node`: a node", due -> Edges.refuseNodes(due, (run, node) -> run.node(node, 5)))
            .test("`what`: 0 for whether it is up (1, otherwise 0)", ToldPromises::nodeIsUp)
            .test("1 for the values that it knows", ToldPromises::valuesOfANode)
            .test("2 for the graves", ToldPromises::gravesOfANode)
            .test("3 for the ripe ones of these", ToldPromises::ripeGravesOfANode)
            .test("4 for those that clear() would clear if it is up", ToldPromises::clearableGraves)
            .test("5 for the keys by which it is haunted", ToldPromises::keysThatHauntANode)
            .test("the number", ToldPromises::nodeOfEachWhat)
            .test("UNKNOWN", due -> Edges.refuseNodes(due, (run, node) -> run.node(node, 0)))
            .test("BAD_VALUE.", due -> Edges.refuse(due, Edges.BAD_VALUE, 0, 5, (run, what) ->
                run.node(0, what)));
        all.in("Promise 20")
            .test("`one`: a node", due -> Edges.refuseNodes(due, (run, one) -> run.pair(one, 0, 1)))
            .test("`other`: another node", ToldPromises::pairOfTheSameNode)
            .test("`what`: 0 for the tick of the latest repair of the pair (NONE without one)",
                ToldPromises::latestRepair)
            .test("1 for how many keys they know otherwise", ToldPromises::keysKnownOtherwise)
            .test("the number", ToldPromises::pairOfEachWhat)
            .test("UNKNOWN (one or other)", ToldPromises::pairOfNoNode)
            .test("BAD_VALUE (what, or both are the same).", ToldPromises::pairOfNoWhat);
    }

    private static void whatItKnows(Due due) {
        for (int node = 0; node <= 3; node++) {
            for (int key = 0; key <= 7; key += 7) {
                new Run(due).set(2, 1).known(node, key, 0).due(0).write(node, key, 0)
                    .known(node, key, 0).due(1).delete(node, key).known(node, key, 0).due(2)
                    .pass(1).clear(node).known(node, key, 0).due(0);
            }
        }
    }

    private static void valueThatItKnows(Due due) {
        new Run(due).known(0, 0, 1).due(Edges.NONE).write(0, 0, 0).known(0, 0, 1).due(0)
            .write(0, 0, 99).known(0, 0, 1).due(99).delete(0, 0).known(0, 0, 1).due(Edges.NONE);
    }

    private static void stampAndTickThatItKnows(Due due) {
        new Run(due).set(2, 1).known(0, 0, 2).due(Edges.NONE).known(0, 0, 3).due(Edges.NONE)
            .write(0, 0, 5).known(0, 0, 2).due(1).known(0, 0, 3).due(0).pass(4).delete(0, 0)
            .known(0, 0, 2).due(2).known(0, 0, 3).due(4).known(0, 0, 1).due(Edges.NONE).pass(1)
            .clear(0).known(0, 0, 2).due(Edges.NONE).known(0, 0, 3).due(Edges.NONE)
            .repair(0, 1).known(0, 0, 2).due(2).known(0, 0, 3).due(4);
    }

    private static void ripeGrave(Due due) {
        new Run(due).set(2, 3).known(0, 0, 4).due(0).delete(0, 0).write(0, 1, 5).known(0, 0, 4).due(0)
            .pass(2).known(0, 0, 4).due(0).pass(1).known(0, 0, 4).due(1).known(0, 1, 4).due(0)
            .known(2, 0, 4).due(0).setUp(0, false).known(0, 0, 4).due(1).set(2, 4)
            .known(0, 0, 4).due(0);
    }

    private static void hauntedByIt(Due due) {
        new Run(due).known(0, 0, 5).due(0).write(0, 0, 5).known(0, 0, 5).due(0).delete(1, 0)
            .known(0, 0, 5).due(1).known(1, 0, 5).due(0).known(3, 0, 5).due(0).setUp(0, false)
            .known(0, 0, 5).due(1).write(3, 0, 6).known(0, 0, 5).due(0);
    }

    private static void tickOfComingToKnow(Due due) {
        new Run(due).set(2, 1).known(0, 0, 6).due(Edges.NONE).pass(3).write(0, 0, 5)
            .known(0, 0, 6).due(3).pass(1).repair(0, 2).known(2, 0, 6).due(4).known(0, 0, 6).due(3)
            .delete(0, 0).known(0, 0, 6).due(4).pass(1).clear(0).known(0, 0, 6).due(Edges.NONE)
            .pass(1).repair(0, 1).known(0, 0, 6).due(6).known(1, 0, 6).due(4);
    }

    private static void knownOfEachWhat(Due due) {
        Run run = new Run(due).set(2, 3).pass(4).write(0, 1, 0).pass(1).delete(1, 1).pass(3);
        int[][] wanted = {{1, 0, 1, 4, 0, 1, 4}, {2, -5, 2, 5, 1, 0, 5}, {2, -5, 2, 5, 1, 0, 5},
            {0, -5, -5, -5, 0, 0, -5}};
        for (int node = 0; node <= 3; node++) {
            for (int what = 0; what <= 6; what++) {
                run.known(node, 1, what).due(wanted[node][what]);
            }
        }
    }

    private static void knownOfNoNodeOrKey(Due due) {
        Edges.refuseNodes(due, (run, node) -> run.known(node, 7, 6));
        Edges.refuseKeys(due, (run, key) -> run.known(3, key, 6));
    }

    private static void truthOfAKey(Due due) {
        for (int key = 0; key <= 7; key++) {
            Run run = new Run(due).write(0, key, 40 + key).delete(0, (key + 1) % 8);
            for (int each = 0; each <= 7; each++) {
                run.truth(each, 0).due(each == key ? 1 : each == (key + 1) % 8 ? 2 : 0);
            }
            run.truth(key, 1).due(40 + key);
        }
    }

    private static void truthOfEachWhat(Due due) {
        Run run = new Run(due).set(0, 3).write(0, 1, 70).write(0, 2, 5).delete(3, 2).set(0, 4)
            .delete(0, 3);
        int[][] wanted = {{0, -5, 4, 0, 0}, {1, 70, 3, 0, 0}, {2, -5, 3, 1, 0}, {2, -5, 4, 0, 1}};
        for (int key = 0; key <= 3; key++) {
            for (int what = 0; what <= 4; what++) {
                run.truth(key, what).due(wanted[key][what]);
            }
        }
    }

    private static void whatTheTruthIs(Due due) {
        new Run(due).truth(0, 0).due(0).write(0, 0, 0).truth(0, 0).due(1).delete(2, 0)
            .truth(0, 0).due(2).delete(2, 0).truth(0, 0).due(2).write(3, 0, 5).truth(0, 0).due(1)
            .undo().truth(0, 0).due(2);
    }

    private static void valueOfTheTruth(Due due) {
        new Run(due).truth(0, 1).due(Edges.NONE).write(0, 0, 0).truth(0, 1).due(0).write(0, 0, 99)
            .truth(0, 1).due(99).delete(2, 0).truth(0, 1).due(Edges.NONE).read(0, 0).due(99)
            .truth(0, 1).due(Edges.NONE);
    }

    private static void nodesThatKnowTheTruth(Due due) {
        Run run = new Run(due).truth(0, 2).due(4).set(0, 1).write(0, 0, 5).truth(0, 2).due(1)
            .repair(0, 1).truth(0, 2).due(2).repair(0, 2).truth(0, 2).due(3).repair(0, 3)
            .truth(0, 2).due(4).truth(1, 2).due(4);
        run.write(0, 0, 5).truth(0, 2).due(1).setUp(0, false).truth(0, 2).due(1).delete(3, 0)
            .truth(0, 2).due(1).pass(50).clear(3).truth(0, 2).due(0).truth(7, 2).due(4);
        // An older value and an older grave are not the truth.
        new Run(due).set(0, 4).delete(0, 0).set(0, 2).delete(0, 0).truth(0, 2).due(2);
    }

    private static void nodesThatAreHaunted(Due due) {
        Run run = new Run(due).truth(0, 3).due(0).set(0, 4).write(0, 0, 5).truth(0, 3).due(0)
            .set(0, 1).delete(0, 0).truth(0, 3).due(3).repair(0, 1).truth(0, 3).due(2).setUp(2, false)
            .truth(0, 3).due(2).truth(1, 3).due(0);
        run.pass(50).clear(0).repair(0, 3).truth(0, 3).due(3).clear(1).repair(1, 0)
            .truth(0, 3).due(4).write(0, 0, 6).truth(0, 3).due(0);
    }

    private static void settledTruth(Due due) {
        Run run = new Run(due).set(0, 4).truth(0, 4).due(0).write(0, 0, 5).truth(0, 4).due(0)
            .delete(0, 0).truth(0, 4).due(1).truth(1, 4).due(0).pass(50);
        for (int node = 0; node <= 3; node++) {
            new Run(due).like(run).clear(node).truth(0, 4).due(0).repair(node, (node + 1) % 4)
                .truth(0, 4).due(1);
        }
        run.clear(0).clear(1).clear(2).clear(3).truth(0, 4).due(0);
        new Run(due).set(0, 3).delete(0, 0).truth(0, 4).due(0).repair(2, 3).truth(0, 4).due(1);
    }

    private static void nodeIsUp(Due due) {
        for (int node = 0; node <= 3; node++) {
            Run run = new Run(due).node(node, 0).due(1).setUp(node, false).node(node, 0).due(0);
            run.node((node + 1) % 4, 0).due(1).setUp(node, true).node(node, 0).due(1);
        }
    }

    private static void nodeOfEachWhat(Due due) {
        Run run = new Run(due).set(2, 2).write(0, 0, 1).write(0, 1, 1).write(0, 2, 1).delete(1, 1)
            .pass(1).delete(1, 3).pass(1).setUp(2, false);
        int[][] wanted = {{1, 3, 0, 0, 0, 1}, {1, 2, 2, 1, 1, 0}, {0, 0, 2, 1, 1, 0},
            {1, 0, 0, 0, 0, 0}};
        for (int node = 0; node <= 3; node++) {
            for (int what = 0; what <= 5; what++) {
                run.node(node, what).due(wanted[node][what]);
            }
        }
    }

    /** Node 0 knows graves of the keys below the number and values of the rest. */
    private static Run gravesBelow(Due due, int graves) {
        Run run = new Run(due).set(0, 1).set(2, 5);
        for (int key = 0; key <= 7; key++) {
            if (key < graves) {
                run.delete(0, key);
            } else {
                run.write(0, key, 0);
            }
        }
        return run;
    }

    private static void valuesOfANode(Due due) {
        new Run(due).node(0, 1).due(0).write(0, 7, 0).node(0, 1).due(1).node(1, 1).due(1)
            .node(2, 1).due(0).delete(0, 0).node(0, 1).due(1);
        for (int graves = 0; graves <= 8; graves++) {
            gravesBelow(due, graves).node(0, 1).due(8 - graves).node(1, 1).due(0)
                .repair(0, 3).node(3, 1).due(8 - graves);
        }
    }

    private static void gravesOfANode(Due due) {
        for (int graves = 0; graves <= 8; graves++) {
            gravesBelow(due, graves).node(0, 2).due(graves).node(1, 2).due(0).setUp(0, false)
                .node(0, 2).due(graves);
        }
    }

    private static void ripeGravesOfANode(Due due) {
        for (int graves = 0; graves <= 8; graves++) {
            gravesBelow(due, graves).pass(4).node(0, 3).due(0).pass(1).node(0, 3).due(graves)
                .setUp(0, false).node(0, 3).due(graves).set(3, 1).node(0, 3).due(graves)
                .set(2, 6).node(0, 3).due(0);
        }
        new Run(due).set(2, 2).delete(0, 0).pass(1).delete(0, 7).pass(1).node(0, 3).due(1)
            .node(0, 2).due(2).pass(1).node(0, 3).due(2);
    }

    private static void clearableGraves(Due due) {
        for (int graves = 0; graves <= 8; graves++) {
            Run run = gravesBelow(due, graves).pass(4).node(0, 4).due(0).pass(1).node(0, 4).due(graves)
                .setUp(0, false).node(0, 4).due(graves).setUp(0, true).set(3, 1).node(0, 4).due(0);
            run.repair(0, 1).repair(0, 2).repair(0, 3).node(0, 4).due(graves).node(1, 4).due(0)
                .clear(0).due(graves == 0 ? Edges.NONE : graves).node(0, 4).due(0);
        }
    }

    private static void keysThatHauntANode(Due due) {
        Run run = new Run(due).set(0, 1).node(0, 5).due(0);
        for (int key = 0; key <= 7; key++) {
            run.write(0, key, 0).node(0, 5).due(key).delete(1, key).node(0, 5).due(key + 1);
        }
        run.node(1, 5).due(0).node(2, 5).due(0).setUp(0, false).node(0, 5).due(8).setUp(0, true)
            .delete(0, 3).node(0, 5).due(7).write(2, 7, 5).node(0, 5).due(6);
    }

    private static void pairOfTheSameNode(Due due) {
        for (int node = 0; node <= 3; node++) {
            Run.full(due).pair(node, node, 0).refused(Edges.BAD_VALUE).pair(node, node, 1)
                .refused(Edges.BAD_VALUE);
        }
    }

    private static void pairOfEachWhat(Due due) {
        Run run = new Run(due).set(0, 1).write(0, 0, 1).write(0, 7, 1).pass(6).repair(2, 0)
            .write(1, 3, 5);
        run.pair(0, 2, 0).due(6).pair(0, 2, 1).due(0).pair(0, 1, 0).due(Edges.NONE)
            .pair(0, 1, 1).due(3).pair(3, 1, 0).due(Edges.NONE).pair(3, 1, 1).due(1);
    }

    private static void latestRepair(Due due) {
        new Run(due).pair(0, 1, 0).due(Edges.NONE).pair(3, 2, 0).due(Edges.NONE).repair(0, 1)
            .pair(0, 1, 0).due(0).pair(1, 0, 0).due(0).pair(0, 2, 0).due(Edges.NONE)
            .pass(3).repair(1, 0).pair(0, 1, 0).due(3).undo().pair(0, 1, 0).due(0)
            .plan(3, 2, 9).pass(9).pair(2, 3, 0).due(9);
    }

    private static void keysKnownOtherwise(Due due) {
        Run run = new Run(due).set(0, 1).pair(0, 1, 1).due(0);
        for (int key = 0; key <= 7; key++) {
            run.write(0, key, 5).pair(0, 1, 1).due(key + 1).pair(1, 0, 1).due(key + 1);
        }
        run.pair(1, 2, 1).due(0).setUp(0, false).pair(0, 3, 1).due(8).setUp(0, true).repair(0, 1)
            .pair(0, 1, 1).due(0).write(1, 0, 5).pair(0, 1, 1).due(1).delete(0, 7)
            .pair(0, 1, 1).due(2);
    }

    private static void pairOfNoNode(Due due) {
        Edges.refuseNodes(due, (run, one) -> run.pair(one, 3, 0));
        Edges.refuseNodes(due, (run, other) -> run.pair(3, other, 0));
        Edges.refuseNodes(due, (run, both) -> run.pair(both, both, 0));
    }

    private static void pairOfNoWhat(Due due) {
        Edges.refuse(due, Edges.BAD_VALUE, 0, 1, (run, what) -> run.pair(0, 3, what));
        Edges.refuse(due, Edges.BAD_VALUE, 0, 1, (run, what) -> run.pair(1, 1, what));
    }
}
