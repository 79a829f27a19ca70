/** Of the terms: repairs, graves, the truth. */
final class GravesTerms {
    private GravesTerms() {
    }

    static void tell(Sentences all) {
        all.in("Terms")
            .test("A repair between two nodes, which are both up, lets both know, of each key, the "
                + "newer one of what they knew.", GravesTerms::bothKnowTheNewer)
            .test("between two nodes, which are both up", GravesTerms::bothMustBeUp)
            .test("The tick of it is the latest repair of this pair (none at first).",
                GravesTerms::latestRepairOfAPair)
            .test("A grave is ripe at a node if as many ticks as the grace tells, or more, have "
                + "passed since its tick.", GravesTerms::ripeByTheGrace)
            .test("When a node is cleared, which must be up", GravesTerms::clearedNodeMustBeUp)
            .test("it knows nothing of the keys whose graves it clears",
                GravesTerms::knowsNothingOfClearedKeys)
            .test("with the way 0 these are all ripe graves of it", GravesTerms::wayZero)
            .test("with the way 1 these are the ripe ones for which each other node (down ones, too) "
                + "had a repair with this node in a tick that is later than the tick in which this "
                + "node came to know the grave.", GravesTerms::wayOne)
            .test("each other node (down ones, too)", GravesTerms::wayOneWithDownNodes)
            .test("in a tick that is later than the tick in which this node came to know the grave",
                GravesTerms::laterThanItCameToKnow)
            .test("A grave is settled if each node knows it, or something newer of its key.",
                GravesTerms::settledGraves)
            .test("The truth of a key is its latest write or deletion (nothing at first), whatever "
                + "the nodes know.", GravesTerms::truthWhateverTheNodesKnow)
            .test("A node that knows a value of a key whose truth is a grave is haunted by that key.",
                GravesTerms::hauntedNodes)
            .test("A key comes back when a node that is not haunted by it becomes so, by a repair or "
                + "by a read that mends.", GravesTerms::comingBack);
    }

    private static void bothKnowTheNewer(Due due) {
        Run run = new Run(due).set(0, 1).write(0, 0, 10).write(3, 0, 13).write(3, 7, 20)
            .write(0, 7, 27).delete(0, 3).write(3, 4, 40).repair(0, 3).due(4);
        for (int node = 0; node <= 3; node += 3) {
            run.known(node, 0, 1).due(13).known(node, 7, 1).due(27).known(node, 3, 0).due(2)
                .known(node, 4, 1).due(40).known(node, 5, 0).due(0);
        }
        run.known(1, 0, 0).due(0).known(2, 7, 0).due(0);
        new Run(due).repair(1, 2).act(0).count(6).due(0);
    }

    private static void bothMustBeUp(Due due) {
        for (int down = 0; down <= 3; down++) {
            int up = (down + 1) % 4;
            Run run = new Run(due).set(0, 1).write(down, 0, 1).write(up, 1, 2).setUp(down, false);
            run.repair(down, up).refused(Edges.NOT_POSSIBLE).repair(up, down)
                .refused(Edges.NOT_POSSIBLE).pair(up, down, 0).due(Edges.NONE)
                .repair(up, (down + 2) % 4).due(1);
        }
        new Run(due).setUp(0, false).setUp(1, false).repair(0, 1).refused(Edges.NOT_POSSIBLE);
    }

    private static void latestRepairOfAPair(Due due) {
        for (int one = 0; one <= 3; one++) {
            for (int other = 0; other <= 3; other++) {
                if (one != other) {
                    new Run(due).pair(one, other, 0).due(Edges.NONE).repair(one, other)
                        .pair(one, other, 0).due(0).pair(other, one, 0).due(0)
                        .pass(5).pair(one, other, 0).due(0).repair(other, one)
                        .pair(one, other, 0).due(5).pair(other, one, 0).due(5);
                }
            }
        }
        Run run = new Run(due).pass(3).repair(1, 2);
        for (int node = 1; node <= 3; node++) {
            run.pair(0, node, 0).due(Edges.NONE);
        }
        run.pair(1, 3, 0).due(Edges.NONE).pair(2, 3, 0).due(Edges.NONE).pair(1, 2, 0).due(3);
    }

    private static void ripeByTheGrace(Due due) {
        for (int grace : new int[] {1, 2, 49, 500}) {
            new Run(due).pass(4).set(2, grace).delete(0, 0).known(0, 0, 4).due(0)
                .passed(grace - 1).known(0, 0, 4).due(0).node(0, 3).due(0).pass(1)
                .known(0, 0, 4).due(1).node(0, 3).due(1).pass(1).known(0, 0, 4).due(1);
        }
        // Its tick is that of the deletion, not that in which the node came to know it.
        new Run(due).set(2, 5).delete(0, 0).pass(4).repair(0, 3).pass(1).repair(3, 2)
            .known(3, 0, 4).due(1).known(2, 0, 4).due(1);
        new Run(due).set(2, 1).write(0, 0, 5).pass(9).known(0, 0, 4).due(0)
            .known(3, 0, 4).due(0).node(0, 3).due(0);
        new Run(due).delete(0, 0).pass(7).set(2, 7).known(0, 0, 4).due(1).set(2, 8)
            .known(0, 0, 4).due(0);
    }

    private static void clearedNodeMustBeUp(Due due) {
        for (int node = 0; node <= 3; node++) {
            Run run = new Run(due).set(2, 1).delete(node, 0).pass(1).setUp(node, false);
            run.node(node, 4).due(1).clear(node).refused(Edges.NOT_POSSIBLE).known(node, 0, 0).due(2)
                .setUp(node, true).clear(node).act(1);
        }
    }

    private static void knowsNothingOfClearedKeys(Due due) {
        Run run = new Run(due).set(2, 1).set(0, 4).write(0, 3, 5).delete(0, 0).delete(0, 7).pass(1)
            .clear(2).act(2);
        for (int what = 1; what <= 6; what++) {
            int none = what == 4 || what == 5 ? 0 : Edges.NONE;
            run.known(2, 0, what).due(none).known(2, 7, what).due(none);
        }
        run.known(2, 0, 0).due(0).known(2, 7, 0).due(0).known(2, 3, 1).due(5)
            .known(1, 0, 0).due(2).known(3, 7, 0).due(2).clear(2).refused(Edges.NONE);
        // It knows nothing, which is older than all: the value of another node comes back.
        new Run(due).set(2, 1).set(0, 1).write(1, 0, 5).delete(0, 0).pass(1).clear(0).due(1)
            .repair(0, 1).due(1).known(0, 0, 1).due(5);
    }

    private static void wayZero(Due due) {
        Run run = new Run(due).set(2, 3).delete(0, 0).pass(1).delete(0, 1).write(0, 2, 5).pass(1)
            .delete(0, 7).clear(0).refused(Edges.NONE);
        run.pass(1).node(0, 4).due(1).clear(0).act(1).known(0, 0, 0).due(0).known(0, 1, 0).due(2)
            .clear(0).refused(Edges.NONE).pass(2).node(0, 4).due(2).clear(0).act(2)
            .known(0, 1, 0).due(0).known(0, 7, 0).due(0).known(0, 2, 0).due(1);
    }

    /** Node 0 knows a ripe grave since tick 0; its repairs are in the ticks that are told. */
    private static Run repairsOfNode0(Due due, int first, int second, int third) {
        Run run = new Run(due).set(3, 1).set(2, 1).set(0, 4).delete(0, 0);
        int[] ticks = {0, first, second, third};
        for (int tick = 0; tick <= 3; tick++) {
            for (int node = 1; node <= 3; node++) {
                if (ticks[node] == tick) {
                    run.repair(node % 2 == 0 ? 0 : node, node % 2 == 0 ? node : 0);
                }
            }
            run.pass(1);
        }
        return run;
    }

    private static void wayOne(Due due) {
        repairsOfNode0(due, 1, 2, 3).node(0, 4).due(1).clear(0).act(1).known(0, 0, 0).due(0);
        repairsOfNode0(due, 1, 1, 1).node(0, 4).due(1).clear(0).act(1);
        // Each of the three, missing or too early.
        int never = 9;
        for (int early : new int[] {0, never}) {
            repairsOfNode0(due, early, 1, 1).node(0, 4).due(0).clear(0).refused(Edges.NONE);
            repairsOfNode0(due, 1, early, 1).node(0, 4).due(0).clear(0).refused(Edges.NONE);
            repairsOfNode0(due, 1, 1, early).node(0, 4).due(0).clear(0).refused(Edges.NONE);
        }
        // Repairs between the other nodes do not count.
        new Run(due).set(3, 1).set(2, 1).set(0, 4).delete(0, 0).pass(1).repair(0, 1).repair(1, 2)
            .repair(2, 3).repair(1, 3).node(0, 4).due(0).node(1, 4).due(1).node(2, 4).due(0)
            .clear(1).act(1);
        // Only the ripe ones.
        repairsOfNode0(due, 1, 2, 3).set(2, 5).node(0, 4).due(0).clear(0).refused(Edges.NONE)
            .pass(1).node(0, 4).due(1).clear(0).act(1);
    }

    private static void wayOneWithDownNodes(Due due) {
        for (int down = 1; down <= 3; down++) {
            int late = 2;
            Run without = repairsOfNode0(due, down == 1 ? 9 : late, down == 2 ? 9 : late,
                down == 3 ? 9 : late).setUp(down, false);
            without.node(0, 4).due(0).clear(0).refused(Edges.NONE);
            repairsOfNode0(due, late, late, late).setUp(down, false).node(0, 4).due(1)
                .clear(0).act(1);
        }
    }

    private static void laterThanItCameToKnow(Due due) {
        // Node 1 comes to know in tick 1 of a grave of tick 0.
        Run run = new Run(due).set(3, 1).set(2, 1).set(0, 1).delete(0, 0).pass(1).repair(0, 1)
            .repair(1, 2).repair(1, 3).known(1, 0, 6).due(1).known(1, 0, 4).due(1);
        run.node(1, 4).due(0).clear(1).refused(Edges.NONE).pass(1).clear(1).refused(Edges.NONE)
            .repair(1, 2).repair(3, 1).clear(1).refused(Edges.NONE).repair(0, 1).node(1, 4).due(1)
            .clear(1).act(1);
        // The same by a read that mends.
        Run read = new Run(due).set(3, 1).set(2, 1).set(0, 1).delete(1, 0).pass(1).read(0, 0)
            .repair(0, 1).repair(0, 2).repair(0, 3).known(0, 0, 6).due(1).node(0, 4).due(0);
        read.pass(1).repair(0, 1).repair(0, 2).node(0, 4).due(0).repair(0, 3).node(0, 4).due(1);
        // What is told again was known before: the grave is known since tick 0.
        repairsOfNode0(due, 1, 2, 3).known(0, 0, 6).due(0).node(0, 4).due(1);
    }

    private static void settledGraves(Due due) {
        Run run = new Run(due).set(0, 1).delete(0, 0).truth(0, 4).due(0).count(10).due(1)
            .repair(0, 1).truth(0, 4).due(0).count(10).due(1).repair(0, 2).truth(0, 4).due(0)
            .count(10).due(1).repair(0, 3);
        run.truth(0, 4).due(1).count(10).due(0).pass(3).graceNeeded().due(1);
        // Something newer of its key at the others, older values, and nothing.
        new Run(due).set(0, 1).delete(0, 0).set(0, 3).write(1, 0, 5).count(10).due(0)
            .pass(2).graceNeeded().due(1).truth(0, 4).due(0);
        new Run(due).set(0, 1).delete(0, 0).set(0, 2).write(1, 0, 5).count(10).due(1)
            .pass(2).graceNeeded().due(3);
        new Run(due).set(0, 1).write(3, 0, 5).set(0, 3).delete(0, 0).count(10).due(1)
            .truth(0, 4).due(0);
        new Run(due).set(0, 4).write(0, 1, 5).set(0, 1).delete(0, 0).set(0, 3).delete(1, 0)
            .count(10).due(1).repair(0, 1).count(10).due(0).truth(0, 4).due(1);
        // Each node, also one that is down.
        new Run(due).set(0, 4).setUp(3, false).delete(0, 0).truth(0, 4).due(0).count(10).due(1)
            .setUp(3, true).repair(0, 3).setUp(3, false).truth(0, 4).due(1).count(10).due(0);
    }

    private static void truthWhateverTheNodesKnow(Due due) {
        new Run(due).truth(0, 0).due(0).truth(0, 1).due(Edges.NONE).truth(7, 0).due(0);
        Run run = new Run(due).set(2, 1).set(0, 1).write(3, 0, 5).truth(0, 0).due(1)
            .truth(0, 1).due(5).truth(1, 0).due(0).delete(0, 0).truth(0, 0).due(2)
            .truth(0, 1).due(Edges.NONE).pass(1).clear(0).due(1).truth(0, 0).due(2);
        run.repair(0, 3).repair(0, 1).repair(0, 2).truth(0, 0).due(2).truth(0, 3).due(4)
            .write(1, 0, 6).truth(0, 0).due(1).truth(0, 1).due(6).repair(0, 3).truth(0, 1).due(6);
        new Run(due).set(0, 4).set(2, 1).delete(0, 0).pass(1).clear(0).clear(1).clear(2).clear(3)
            .due(1).truth(0, 0).due(2).count(6).due(0);
        new Run(due).write(0, 0, 5).truth(0, 1).due(5).write(2, 0, 6).truth(0, 1).due(6)
            .setUp(2, false).setUp(3, false).truth(0, 1).due(6).read(0, 0).due(5).truth(0, 1).due(6);
    }

    private static void hauntedNodes(Due due) {
        Run run = new Run(due).set(0, 3).write(0, 0, 5).known(0, 0, 5).due(0).set(0, 1).delete(0, 0)
            .known(0, 0, 5).due(0).known(1, 0, 5).due(1).known(2, 0, 5).due(1).known(3, 0, 5).due(0)
            .node(1, 5).due(1).truth(0, 3).due(2).count(7).due(1);
        run.write(3, 0, 6).known(1, 0, 5).due(0).known(3, 0, 5).due(0).truth(0, 3).due(0)
            .count(7).due(0).delete(2, 0).known(1, 0, 5).due(1).known(3, 0, 5).due(1)
            .known(2, 0, 5).due(0).known(0, 0, 5).due(0);
        new Run(due).set(0, 4).write(0, 0, 5).write(0, 1, 5).set(0, 1).delete(0, 0)
            .known(1, 1, 5).due(0).node(1, 5).due(1);
    }

    private static void comingBack(Due due) {
        // By a repair, and by a read that mends.
        Run haunted = new Run(due).set(2, 1).set(0, 1).write(1, 0, 5).delete(0, 0).count(4).due(0)
            .pass(1).clear(0).count(4).due(0);
        haunted.repair(0, 2).count(4).due(0).repair(0, 1).due(1).count(4).due(1).event(0, 0).due(2)
            .event(0, 2).due(0).event(0, 3).due(0).repair(1, 2).count(4).due(2).event(0, 2).due(2)
            .read(2, 0).due(5).count(4).due(3).event(0, 0).due(2).event(0, 2).due(3);
        // Not once more by a repair, nor by a read that does not mend.
        haunted.repair(2, 3).repair(0, 3).count(4).due(3);
        new Run(due).set(0, 1).write(1, 0, 5).delete(3, 0).set(4, 0).read(0, 0).due(5)
            .count(4).due(0).known(0, 0, 5).due(0);
        // Not by a write or a deletion, nor if it was haunted by an older value.
        new Run(due).set(0, 2).write(0, 0, 5).delete(1, 0).known(0, 0, 5).due(1).count(4).due(0);
        new Run(due).set(0, 1).write(0, 0, 5).write(1, 0, 6).delete(2, 0).repair(0, 1).due(1)
            .known(0, 0, 1).due(6).count(4).due(0).event(0, 0).due(0);
        // A grave that is older than the value: not haunted, and haunted then.
        new Run(due).set(0, 1).delete(0, 0).write(1, 0, 5).delete(2, 0).repair(0, 1)
            .count(4).due(1).event(0, 2).due(0);
        // A value of a key whose truth is a value does not come back, nor does a grave.
        new Run(due).set(0, 1).write(0, 0, 5).repair(0, 1).delete(2, 1).repair(2, 1).count(4).due(0);
        // Each key for itself, whatever else haunts the node.
        Run keys = new Run(due).set(0, 1);
        for (int key = 0; key <= 7; key++) {
            keys.write(0, key, 5).delete(3, key);
        }
        for (int key = 0; key <= 7; key++) {
            keys.read(0, key).due(5).count(4).due(key + 1).event(0, 2).due(1).event(0, 3).due(key);
        }
        // Once more when it was cleared again.
        new Run(due).set(2, 1).set(0, 1).write(1, 0, 5).delete(0, 0).pass(1).clear(0).repair(0, 1)
            .count(4).due(1).delete(0, 0).pass(1).clear(0).repair(0, 1).count(4).due(2);
    }
}
