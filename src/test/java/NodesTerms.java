/** "What it is", and of the terms: nodes and keys, writes and reads. */
final class NodesTerms {
    private NodesTerms() {
    }

    static void tell(Sentences all) {
        all.in("What it is")
            .untested("Keys that are kept by four nodes, and the graves of deleted ones, which have "
                + "to stay until each node has heard of them: writes and deletions that reach some "
                + "nodes, nodes that are down, reads that ask some nodes and mend them, repairs "
                + "between two nodes, graves that are cleared by age or by repairs, deleted keys "
                + "that come back, which pair was repaired the longest ago, which graves can be "
                + "cleared safely, how long graves would have to stay, repairs that are planned by "
                + "a text with the places of faults, a log, undo and a snapshot.",
                "it sums up what the promises say")
            .test("An object is used for at most 512 calls after it has been made",
                NodesTerms::call512)
            .untested("what later calls answer is free", "any answer would be right");
        all.in("Terms")
            .test("There are 4 nodes, numbered from 0, each up (at first) or down",
                NodesTerms::fourNodes)
            .test("and 8 keys, numbered from 0.", NodesTerms::eightKeys)
            .test("Of each key, a node knows nothing (at first)", NodesTerms::nothingAtFirst)
            .test("a value (0 to 99)", NodesTerms::valuesFrom0To99)
            .test("or a grave (the key was deleted).", NodesTerms::graveOfADeletedKey)
            .test("A value or a grave has a stamp and a tick.", NodesTerms::stampAndTick)
            .test("Stamps are numbers from 1 on, each is given once, to each write or deletion in "
                + "their order; the tick is that of the write or deletion.",
                NodesTerms::stampsFrom1On)
            .test("A node also keeps the tick in which it came to know what it knows (by a write, a "
                + "repair or a read that mends).", NodesTerms::tickOfComingToKnow)
            .test("Of two that a node may know of a key, that with the greater stamp is newer; "
                + "nothing is older than all.", NodesTerms::greaterStampIsNewer)
            .test("There are these settings (range; first value): 0 the reach of writes (1 to 4; 2)",
                NodesTerms::reachOfWrites)
            .test("1 the reach of reads (1 to 4; 2)", NodesTerms::reachOfReads)
            .test("2 the grace in ticks (1 to 500; 50)", NodesTerms::graceInTicks)
            .test("3 the way of clearing (0 or 1; 0)", NodesTerms::wayOfClearing)
            .test("4 whether reads mend (0 or 1; 1)", NodesTerms::whetherReadsMend)
            .test("The nodes that a write or read reaches are those that are up, from a node on "
                + "(which must be up), going round (0 comes behind 3), as many as the reach tells, "
                + "or all that are up, if they are fewer.", NodesTerms::reachOfEachNode)
            .test("from a node on (which must be up)", NodesTerms::nodeThatIsDown)
            .test("going round (0 comes behind 3)", NodesTerms::nodeZeroComesBehindThree)
            .test("or all that are up, if they are fewer", NodesTerms::fewerAreUp)
            .test("A write (or deletion) with its new stamp is what all nodes that it reaches know "
                + "of the key then.", NodesTerms::reachedNodesKnowTheWrite)
            .test("A read tells the newest that any node that it reaches knows of the key.",
                NodesTerms::readTellsTheNewest)
            .test("If reads mend, all nodes that it reaches know this then",
                NodesTerms::readsMendAllReached)
            .test("(they come to know it in the order in which they are reached)",
                NodesTerms::mendedInTheOrderOfReaching);
    }

    private static void call512(Due due) {
        Run passes = new Run(due);
        for (int i = 1; i <= 511; i++) {
            passes.pass(99);
        }
        passes.count(0).due(511 * 99);
        Run writes = new Run(due);
        for (int i = 1; i <= 511; i++) {
            writes.write(i % 4, i % 8, i % 100).due(2);
        }
        writes.known(3, 7, 2).due(511);
        Run undone = new Run(due);
        for (int i = 1; i <= 511; i++) {
            undone.delete(i % 4, i % 8);
        }
        undone.undo().due(3);
        Run events = new Run(due);
        for (int i = 1; i <= 511; i++) {
            events.repair(0, 3).due(0);
        }
        events.count(2).due(511);
    }

    private static void fourNodes(Due due) {
        for (int node = 0; node <= 3; node++) {
            new Run(due).node(node, 0).due(1).setUp(node, false).due(3).node(node, 0).due(0)
                .count(9).due(3).setUp(node, true).due(4).node(node, 0).due(1);
        }
        new Run(due).count(9).due(4).node(4, 0).refused(Edges.UNKNOWN);
        new Run(due).node(-1, 0).refused(Edges.UNKNOWN);
    }

    private static void eightKeys(Due due) {
        for (int key = 0; key <= 7; key++) {
            new Run(due).write(3, key, 5).due(2).known(0, key, 1).due(5).truth(key, 1).due(5)
                .known(0, (key + 1) % 8, 0).due(0).known(0, (key + 7) % 8, 0).due(0);
        }
        new Run(due).truth(8, 0).refused(Edges.UNKNOWN);
        new Run(due).truth(-1, 0).refused(Edges.UNKNOWN);
    }

    private static void nothingAtFirst(Due due) {
        Run run = new Run(due);
        for (int node = 0; node <= 3; node++) {
            for (int key = 0; key <= 7; key++) {
                run.known(node, key, 0).due(0).known(node, key, 1).due(Edges.NONE);
            }
        }
    }

    private static void valuesFrom0To99(Due due) {
        new Run(due).write(0, 0, 0).due(2).known(0, 0, 0).due(1).known(0, 0, 1).due(0)
            .read(0, 0).due(0).truth(0, 0).due(1).truth(0, 1).due(0);
        new Run(due).write(0, 0, 99).due(2).known(1, 0, 0).due(1).known(1, 0, 1).due(99)
            .read(0, 0).due(99).truth(0, 1).due(99);
        new Run(due).write(0, 0, -1).refused(Edges.BAD_VALUE);
        new Run(due).write(0, 0, 100).refused(Edges.BAD_VALUE);
    }

    private static void graveOfADeletedKey(Due due) {
        new Run(due).write(0, 4, 9).delete(0, 4).due(2).known(0, 4, 0).due(2)
            .known(0, 4, 1).due(Edges.NONE).known(1, 4, 0).due(2).known(2, 4, 0).due(0);
        new Run(due).delete(3, 4).due(2).known(3, 4, 0).due(2).known(0, 4, 0).due(2);
    }

    private static void stampAndTick(Due due) {
        new Run(due).pass(7).write(0, 1, 5).delete(0, 2).known(0, 1, 2).due(1).known(0, 1, 3).due(7)
            .known(0, 2, 2).due(2).known(0, 2, 3).due(7)
            .known(3, 1, 2).due(Edges.NONE).known(3, 1, 3).due(Edges.NONE);
    }

    private static void stampsFrom1On(Due due) {
        new Run(due).count(1).due(0).write(0, 0, 5).known(0, 0, 2).due(1).count(1).due(1)
            .delete(2, 7).known(2, 7, 2).due(2).write(0, 0, 5).known(0, 0, 2).due(3)
            .known(1, 0, 2).due(3).count(1).due(3);
        Run refused = new Run(due).setUp(3, false).write(3, 0, 1).delete(3, 0).write(0, 0, 100)
            .delete(0, 8).read(0, 0).count(1).due(0).pass(1).repair(0, 1).write(0, 0, 1);
        refused.known(0, 0, 2).due(1);
        // The tick stays that of the write, through whichever nodes it goes.
        new Run(due).write(0, 0, 5).pass(3).repair(0, 2).known(2, 0, 3).due(0).pass(3).repair(2, 3)
            .known(3, 0, 3).due(0).known(3, 0, 2).due(1).write(1, 0, 6).known(1, 0, 3).due(6)
            .known(0, 0, 3).due(0);
        new Run(due).set(0, 1).pass(1).delete(0, 0).pass(3).read(3, 0).known(3, 0, 3).due(1).pass(3)
            .read(2, 0).known(2, 0, 3).due(1).known(2, 0, 2).due(1).known(2, 0, 6).due(7);
    }

    private static void tickOfComingToKnow(Due due) {
        Run run = new Run(due).pass(2).write(0, 0, 5).known(0, 0, 6).due(2).known(1, 0, 6).due(2)
            .known(2, 0, 6).due(Edges.NONE).pass(3).repair(1, 2).known(2, 0, 6).due(5)
            .known(1, 0, 6).due(2).pass(4).read(2, 0).due(5).known(3, 0, 6).due(9)
            .known(2, 0, 6).due(5);
        run.pass(1).delete(0, 0).known(0, 0, 6).due(10).pass(1).repair(0, 3)
            .known(3, 0, 6).due(11).known(3, 0, 3).due(10).known(0, 0, 6).due(10);
        new Run(due).write(0, 0, 5).pass(2).repair(0, 1).read(0, 0).due(5)
            .known(0, 0, 6).due(0).known(1, 0, 6).due(0);
    }

    private static void greaterStampIsNewer(Due due) {
        new Run(due).set(0, 1).write(0, 0, 90).write(1, 0, 10).repair(0, 1).due(1)
            .known(0, 0, 1).due(10).known(1, 0, 1).due(10);
        new Run(due).set(0, 1).write(0, 0, 90).write(1, 0, 10).repair(1, 0).due(1)
            .known(0, 0, 1).due(10).known(1, 0, 1).due(10);
        new Run(due).set(0, 1).write(0, 0, 5).write(1, 0, 5).repair(0, 1).due(1)
            .known(0, 0, 2).due(2);
        new Run(due).set(0, 1).delete(0, 0).write(1, 0, 5).repair(0, 1).known(0, 0, 0).due(1);
        new Run(due).set(0, 1).write(0, 0, 5).delete(1, 0).repair(0, 1).known(0, 0, 0).due(2);
        new Run(due).set(0, 1).write(0, 0, 0).repair(0, 1).due(1).known(1, 0, 0).due(1)
            .known(0, 0, 0).due(1);
        new Run(due).set(0, 1).delete(1, 0).repair(0, 1).due(1).known(0, 0, 0).due(2)
            .known(1, 0, 0).due(2);
    }

    /** The edges of a setting: both ends are taken, the numbers beside them are refused. */
    private static void edges(Due due, int which, int least, int greatest, int first) {
        new Run(due).setting(which).due(first).set(which, least - 1).refused(Edges.BAD_VALUE);
        new Run(due).set(which, greatest + 1).refused(Edges.BAD_VALUE);
        int opposite = first == least ? greatest : least;
        int other = first == least ? least : greatest;
        new Run(due).set(which, opposite).act(first).setting(which).due(opposite)
            .set(which, other).act(opposite).setting(which).due(other);
    }

    private static void reachOfWrites(Due due) {
        edges(due, 0, 1, 4, 2);
        new Run(due).write(0, 0, 1).due(2).delete(1, 1).due(2).set(0, 1).write(0, 0, 1).due(1)
            .set(0, 4).write(0, 0, 1).due(4).set(0, 3).delete(0, 0).due(3);
    }

    private static void reachOfReads(Due due) {
        edges(due, 1, 1, 4, 2);
        Run run = new Run(due).set(4, 0).set(0, 1).write(1, 1, 10).write(2, 2, 20).write(3, 3, 30);
        run.read(0, 1).due(10).read(0, 2).due(Edges.NONE).set(1, 1).read(0, 1).due(Edges.NONE)
            .set(1, 3).read(0, 2).due(20).read(0, 3).due(Edges.NONE).set(1, 4).read(0, 3).due(30);
    }

    private static void graceInTicks(Due due) {
        edges(due, 2, 1, 500, 50);
        new Run(due).delete(0, 0).pass(49).known(0, 0, 4).due(0).pass(1).known(0, 0, 4).due(1);
    }

    private static void wayOfClearing(Due due) {
        edges(due, 3, 0, 1, 0);
        new Run(due).delete(0, 0).pass(50).node(0, 4).due(1).set(3, 1).node(0, 4).due(0)
            .clear(0).refused(Edges.NONE).set(3, 0).clear(0).due(1);
    }

    private static void whetherReadsMend(Due due) {
        edges(due, 4, 0, 1, 1);
        new Run(due).set(0, 1).write(1, 0, 5).read(0, 0).due(5).known(0, 0, 0).due(1);
        new Run(due).set(0, 1).write(1, 0, 5).set(4, 0).read(0, 0).due(5).known(0, 0, 0).due(0);
    }

    /** Which nodes are reached, as the sentence tells it: a bit for each. */
    private static int reached(int up, int from, int reach) {
        int nodes = 0;
        int left = reach;
        for (int node = from; node < from + 4 && left > 0; node++) {
            int bit = 1 << (node > 3 ? node - 4 : node);
            if ((up & bit) != 0) {
                nodes |= bit;
                left--;
            }
        }
        return nodes;
    }

    private static Run withNodesUp(Run run, int up) {
        for (int node = 0; node <= 3; node++) {
            if ((up & 1 << node) == 0) {
                run.setUp(node, false);
            }
        }
        return run;
    }

    /** All nodes up or down, all nodes to begin with, and all reaches. */
    private static void reachOfEachNode(Due due) {
        for (int up = 1; up < 16; up++) {
            for (int from = 0; from <= 3; from++) {
                for (int reach = 1; reach <= 4 && (up & 1 << from) != 0; reach++) {
                    int nodes = reached(up, from, reach);
                    Run run = withNodesUp(new Run(due).set(0, reach), up);
                    run.write(from, 0, 5).due(Integer.bitCount(nodes))
                        .delete(from, 1).due(Integer.bitCount(nodes));
                    for (int node = 0; node <= 3; node++) {
                        int bit = nodes >> node & 1;
                        run.known(node, 0, 0).due(bit).known(node, 1, 0).due(2 * bit);
                    }
                    reachOfReads(due, up, from, reach, nodes);
                }
            }
        }
    }

    /** Key n is known by node n alone, so that a read of it tells whether node n is reached. */
    private static void reachOfReads(Due due, int up, int from, int reach, int nodes) {
        Run run = new Run(due).set(0, 1).write(0, 0, 10).write(1, 1, 11).write(2, 2, 12)
            .write(3, 3, 13).set(1, reach).set(4, 0);
        withNodesUp(run, up);
        for (int node = 0; node <= 3; node++) {
            run.read(from, node).due((nodes >> node & 1) == 1 ? 10 + node : Edges.NONE);
        }
    }

    private static void nodeThatIsDown(Due due) {
        for (int node = 0; node <= 3; node++) {
            new Run(due).write(node, 1, 4).setUp(node, false).write(node, 0, 5)
                .refused(Edges.NOT_POSSIBLE).delete(node, 1).refused(Edges.NOT_POSSIBLE)
                .read(node, 1).refused(Edges.NOT_POSSIBLE);
        }
    }

    private static void nodeZeroComesBehindThree(Due due) {
        new Run(due).write(3, 0, 5).due(2).known(3, 0, 0).due(1).known(0, 0, 0).due(1)
            .known(1, 0, 0).due(0).known(2, 0, 0).due(0);
        new Run(due).delete(3, 0).due(2).known(0, 0, 0).due(2).known(1, 0, 0).due(0);
        new Run(due).set(0, 1).write(0, 0, 5).write(1, 1, 6).read(3, 0).due(5)
            .read(3, 1).due(Edges.NONE);
        new Run(due).setUp(0, false).write(3, 0, 5).due(2).known(1, 0, 0).due(1)
            .known(2, 0, 0).due(0);
    }

    private static void fewerAreUp(Due due) {
        new Run(due).set(0, 4).setUp(1, false).write(0, 0, 5).due(3).known(1, 0, 0).due(0)
            .setUp(2, false).delete(0, 0).due(2).setUp(3, false).write(0, 0, 6).due(1)
            .known(0, 0, 1).due(6).known(3, 0, 0).due(2);
        new Run(due).set(0, 1).write(2, 0, 5).set(1, 4).setUp(1, false).setUp(0, false)
            .read(3, 0).due(5).setUp(2, false).read(3, 0).due(5).known(0, 0, 0).due(0);
    }

    private static void reachedNodesKnowTheWrite(Due due) {
        new Run(due).set(0, 4).write(0, 0, 5).set(0, 2).delete(1, 0).due(2)
            .known(1, 0, 0).due(2).known(2, 0, 0).due(2).known(1, 0, 2).due(2).known(2, 0, 2).due(2)
            .known(0, 0, 1).due(5).known(3, 0, 2).due(1)
            .write(2, 0, 7).due(2).known(2, 0, 1).due(7).known(3, 0, 1).due(7).known(3, 0, 2).due(3)
            .known(1, 0, 0).due(2).known(0, 0, 1).due(5);
        new Run(due).write(0, 0, 5).pass(2).write(0, 0, 5).known(0, 0, 2).due(2)
            .known(0, 0, 3).due(2).known(1, 0, 6).due(2);
        // Whatever the nodes knew: nothing, a value or a grave.
        Run all = new Run(due).set(0, 4).write(0, 0, 5).write(1, 0, 6);
        for (int node = 0; node <= 3; node++) {
            all.known(node, 0, 1).due(6).known(node, 0, 2).due(2);
        }
        all.delete(2, 0).delete(3, 0);
        for (int node = 0; node <= 3; node++) {
            all.known(node, 0, 0).due(2).known(node, 0, 2).due(4);
        }
        all.write(3, 0, 7).known(0, 0, 1).due(7).known(1, 0, 1).due(7).known(2, 0, 1).due(7)
            .known(3, 0, 1).due(7);
    }

    private static void readTellsTheNewest(Due due) {
        Run apart = new Run(due).set(4, 0).set(0, 1).write(0, 0, 30).write(1, 0, 20)
            .write(2, 0, 10);
        apart.read(0, 0).due(20).read(1, 0).due(10).read(2, 0).due(10).read(3, 0).due(30)
            .set(1, 3).read(0, 0).due(10).read(3, 0).due(20).set(1, 1).read(0, 0).due(30);
        new Run(due).set(4, 0).set(0, 1).write(0, 0, 5).delete(1, 0).read(0, 0).due(Edges.NONE);
        new Run(due).set(4, 0).set(0, 1).delete(1, 0).write(0, 0, 5).read(0, 0).due(5);
        new Run(due).read(0, 0).refused(Edges.NONE);
    }

    private static void readsMendAllReached(Due due) {
        new Run(due).set(0, 1).set(1, 3).write(3, 0, 5).pass(4).read(3, 0).act(5)
            .known(3, 0, 2).due(1).known(0, 0, 2).due(1).known(1, 0, 2).due(1).known(2, 0, 0).due(0)
            .known(0, 0, 1).due(5).known(0, 0, 3).due(0).known(0, 0, 6).due(4);
        new Run(due).set(0, 1).write(0, 0, 5).delete(1, 0).read(0, 0).act(Edges.NONE)
            .known(0, 0, 0).due(2).known(0, 0, 2).due(2);
        Run others = new Run(due).write(0, 0, 5).write(0, 1, 6).read(1, 0).due(5);
        others.known(2, 1, 0).due(0).known(2, 0, 0).due(1);
        Run none = new Run(due).set(4, 0).set(0, 1).write(1, 0, 5).read(0, 0).due(5);
        none.asBehind(new Run(due).set(4, 0).set(0, 1).write(1, 0, 5));
    }

    private static void mendedInTheOrderOfReaching(Due due) {
        for (int from = 0; from <= 3; from++) {
            int last = (from + 3) % 4;
            // Only the last node that is reached knows the value; the key was deleted elsewhere.
            Run run = new Run(due).set(0, 1).set(1, 4).set(2, 1).delete(from, 2).write(last, 2, 5)
                .delete(from, 2).pass(1).clear(from).due(1).pass(2).read(from, 2).due(5);
            run.count(4).due(3);
            for (int back = 0; back <= 2; back++) {
                run.event(back, 0).due(2).event(back, 1).due(3)
                    .event(back, 2).due((from + 2 - back) % 4).event(back, 3).due(2);
            }
            run.event(3, 0).due(3);
        }
    }
}
