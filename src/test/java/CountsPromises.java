/** Promises 21 (slowest), 22 (graceNeeded), 23 (event), 24 (planned) and 25 (count). */
final class CountsPromises {
    private static final int[][] PAIRS = {{0, 1}, {0, 2}, {0, 3}, {1, 2}, {1, 3}, {2, 3}};

    private CountsPromises() {
    }

    static void tell(Sentences all) {
        all.in("Promise 21")
            .test("Tells the pair that was repaired the longest ago",
                CountsPromises::slowestByTheTick)
            .test("(one that never was goes ahead of all)", CountsPromises::neverGoesAhead)
            .test("of several that with the lowest first node, then the lowest second one.",
                CountsPromises::lowestOfSeveral)
            .test("4 times the lesser node plus the greater one.",
                CountsPromises::slowestTellsBothNodes);
        all.in("Promise 22")
            .test("Tells the least grace with which no grave that is not settled would be ripe at "
                + "any node now.", CountsPromises::leastGrace)
            .test("the ticks, 1 or more (also above 500)", CountsPromises::graceOf1AndAbove500)
            .test("1 if there is no such grave.", CountsPromises::noSuchGrave);
        all.in("Promise 23")
            .test("Looks back at the events.", CountsPromises::eventLooksBack)
            .test("`back`: 0 for the latest event, 1 for the one before, and so on",
                CountsPromises::eventLooksBack)
            .test("`what`: 0 for the event, 1 for its tick, 2 for its first number, 3 for its second "
                + "number", CountsPromises::eventOfEachWhat)
            .test("the number", CountsPromises::eventOfEachWhat)
            .test("BAD_VALUE (back is negative, or what)", CountsPromises::eventOfNoWhat)
            .test("NONE if there is none.", CountsPromises::eventThatThereIsNot);
        all.in("Promise 24")
            .test("`place`: a place in the plan, from 0", CountsPromises::plannedFrom0)
            .test("`what`: 0 and 1 for its nodes as they were told, 2 for its tick",
                CountsPromises::plannedAsTold)
            .test("the number", CountsPromises::plannedAsTold)
            .test("BAD_VALUE (place is negative, or what)", CountsPromises::plannedOfNoWhat)
            .test("NONE if there are not so many.", CountsPromises::plannedOfNotSoMany);
        all.in("Promise 25")
            .test("`what`: 0 for the tick, 1 for the stamps that were given so far",
                CountsPromises::tickAndStamps)
            .test("2 to 5 for the events 0 to 3 so far", CountsPromises::eventsSoFar)
            .test("6 for graves of all nodes, 7 for keys by which any node is haunted",
                CountsPromises::gravesAndHauntingKeys)
            .test("8 for repairs of the plan, 9 for nodes that are up",
                CountsPromises::planAndNodesUp)
            .test("10 for graves that are not settled (each once, however many nodes know it)",
                CountsPromises::gravesNotSettled)
            .test("11 for the states in the history, 12 for the length of the text",
                CountsPromises::statesAndText)
            .test("the number", CountsPromises::countsOfANewObject)
            .test("BAD_VALUE.", due -> Edges.refuse(due, Edges.BAD_VALUE, 0, 12, Run::count));
    }

    /** All six pairs are repaired, the one at this place first, each in a tick of its own. */
    private static Run repairedFrom(Due due, int place) {
        Run run = new Run(due);
        for (int i = 0; i < 6; i++) {
            int[] pair = PAIRS[(place + i) % 6];
            run.pass(1).repair(pair[1], pair[0]);
        }
        return run;
    }

    private static int told(int place) {
        return 4 * PAIRS[place][0] + PAIRS[place][1];
    }

    private static void slowestByTheTick(Due due) {
        for (int place = 0; place < 6; place++) {
            Run run = repairedFrom(due, place).slowest().due(told(place));
            run.repair(PAIRS[place][0], PAIRS[place][1]).slowest().due(told((place + 1) % 6))
                .undo().slowest().due(told(place)).pass(50).slowest().due(told(place));
        }
        // A repair that is missed is none; one that is done by the plan is one.
        repairedFrom(due, 5).setUp(3, false).plan(2, 3, 7).pass(1).slowest().due(told(5))
            .setUp(3, true).plan(3, 2, 8).pass(1).slowest().due(told(0));
    }

    private static void neverGoesAhead(Due due) {
        for (int never = 0; never < 6; never++) {
            Run run = new Run(due);
            for (int place = 0; place < 6; place++) {
                if (place != never) {
                    run.repair(PAIRS[place][0], PAIRS[place][1]);
                }
            }
            // All others were repaired in tick 0, the least that there is.
            run.slowest().due(told(never)).pass(99).slowest().due(told(never));
        }
    }

    private static void lowestOfSeveral(Due due) {
        new Run(due).slowest().due(1);
        for (int tick = 0; tick <= 1; tick++) {
            Run run = new Run(due);
            for (int place = 0; place < 6; place++) {
                run.slowest().due(told(place)).repair(PAIRS[place][0], PAIRS[place][1]);
            }
            run.slowest().due(told(0)).pass(1);
            for (int place = 0; place < 6; place++) {
                run.slowest().due(told(place)).repair(PAIRS[place][0], PAIRS[place][1]);
            }
            run.slowest().due(told(0));
        }
        // The lowest first node goes ahead of the lowest second one: 0 and 3, not 1 and 2.
        new Run(due).repair(0, 1).repair(0, 2).slowest().due(3).repair(0, 3).slowest().due(6);
        new Run(due).pass(1).repair(2, 3).repair(1, 3).repair(1, 2).repair(0, 3).repair(0, 2)
            .repair(0, 1).slowest().due(1);
    }

    private static void slowestTellsBothNodes(Due due) {
        int[] numbers = {1, 2, 3, 6, 7, 11};
        for (int place = 0; place < 6; place++) {
            repairedFrom(due, place).slowest().due(numbers[place]);
        }
    }

    private static void leastGrace(Due due) {
        Run run = new Run(due).delete(0, 0).graceNeeded().due(1);
        for (int ticks = 1; ticks <= 3; ticks++) {
            run.pass(1).graceNeeded().due(ticks + 1).set(2, ticks).known(0, 0, 4).due(1)
                .set(2, ticks + 1).known(0, 0, 4).due(0);
        }
        // The oldest one, at any node, also one that is down and the last one.
        new Run(due).set(0, 1).delete(3, 7).pass(4).delete(0, 0).pass(2).graceNeeded().due(7)
            .setUp(3, false).graceNeeded().due(7).setUp(3, true).delete(0, 7).graceNeeded().due(7);
        new Run(due).set(0, 1).delete(0, 0).pass(4).delete(3, 7).pass(2).graceNeeded().due(7)
            .write(0, 0, 1).graceNeeded().due(3).write(3, 7, 1).graceNeeded().due(1);
        // Its tick is that of the deletion, not that in which a node came to know it.
        new Run(due).set(0, 1).delete(0, 0).pass(4).repair(0, 1).write(0, 0, 5).pass(1)
            .graceNeeded().due(6);
        // It does not look at the setting.
        new Run(due).set(2, 500).delete(0, 0).pass(9).graceNeeded().due(10).set(2, 1)
            .graceNeeded().due(10).set(3, 1).graceNeeded().due(10);
    }

    private static void graceOf1AndAbove500(Due due) {
        new Run(due).delete(0, 0).graceNeeded().due(1);
        new Run(due).delete(0, 0).passed(499).graceNeeded().due(500).pass(1).graceNeeded().due(501)
            .pass(99).graceNeeded().due(600);
        new Run(due).pass(99).delete(0, 0).passed(9999).graceNeeded().due(10000);
    }

    private static void noSuchGrave(Due due) {
        new Run(due).graceNeeded().due(1).pass(99).graceNeeded().due(1).write(0, 0, 5).pass(99)
            .graceNeeded().due(1);
        // Settled graves do not count, nor do those that something newer stands for everywhere.
        new Run(due).set(0, 4).delete(0, 0).pass(99).graceNeeded().due(1).clear(0)
            .graceNeeded().due(100).repair(0, 1).graceNeeded().due(1);
        new Run(due).delete(0, 0).pass(9).graceNeeded().due(10).set(0, 4).write(0, 0, 5)
            .graceNeeded().due(1);
        // Nobody knows a grave any more.
        new Run(due).delete(0, 0).pass(50).graceNeeded().due(51).clear(0).graceNeeded().due(51)
            .clear(1).graceNeeded().due(1);
    }

    private static void eventLooksBack(Due due) {
        Run run = new Run(due);
        for (int events = 1; events <= 12; events++) {
            run.pass(events).repair(0, 1);
            int tick = events * (events + 1) / 2;
            run.event(0, 1).due(tick).event(1, 1).due(events == 1 ? Edges.NONE : tick - events);
        }
        run.event(9, 1).due(6).event(8, 1).due(10).event(10, 1).due(Edges.NONE).undo()
            .event(0, 1).due(66).event(9, 1).due(3);
    }

    private static void eventOfEachWhat(Due due) {
        new Run(due).set(2, 1).set(0, 1).write(1, 6, 5).delete(3, 6).delete(3, 5).plan(2, 0, 2)
            .pass(1).clear(3).setUp(2, false).pass(1).repair(1, 3)
            .event(0, 0).due(2).event(0, 1).due(2).event(0, 2).due(3).event(0, 3).due(6)
            .event(1, 0).due(0).event(1, 1).due(2).event(1, 2).due(1).event(1, 3).due(3)
            .event(2, 0).due(1).event(2, 1).due(2).event(2, 2).due(0).event(2, 3).due(2)
            .event(3, 0).due(3).event(3, 1).due(1).event(3, 2).due(3).event(3, 3).due(2)
            .event(4, 0).due(Edges.NONE);
    }

    private static void eventOfNoWhat(Due due) {
        Edges.refuse(due, Edges.BAD_VALUE, 0, 3, (run, what) -> run.event(0, what));
        Run.full(due).event(-1, 0).refused(Edges.BAD_VALUE).event(Integer.MIN_VALUE, 3)
            .refused(Edges.BAD_VALUE).event(-10, 0).refused(Edges.BAD_VALUE);
        new Run(due).event(-1, 0).refused(Edges.BAD_VALUE).event(0, 4).refused(Edges.BAD_VALUE)
            .event(99, -1).refused(Edges.BAD_VALUE).event(0, 0).refused(Edges.NONE);
    }

    private static void eventThatThereIsNot(Due due) {
        Run run = new Run(due);
        for (int events = 0; events <= 12; events++) {
            int known = Math.min(events, 10);
            for (int what = 0; what <= 3; what++) {
                run.event(known, what).due(Edges.NONE).event(Integer.MAX_VALUE, what).due(Edges.NONE);
            }
            if (known > 0) {
                run.event(known - 1, 0).due(0);
            }
            run.repair(0, 1);
        }
        Run.full(due).event(10, 0).refused(Edges.NONE).event(Integer.MAX_VALUE, 3)
            .refused(Edges.NONE);
    }

    private static void plannedFrom0(Due due) {
        Run run = new Run(due);
        for (int place = 0; place <= 9; place++) {
            run.planned(place, 2).due(Edges.NONE).plan(0, 1, 70 + place).planned(place, 2)
                .due(70 + place).planned(0, 2).due(70);
        }
        run.planned(10, 2).refused(Edges.NONE).planned(-1, 2).refused(Edges.BAD_VALUE);
    }

    private static void plannedAsTold(Due due) {
        new Run(due).plan(3, 0, 9999).plan(0, 3, 0).planned(0, 0).due(3).planned(0, 1).due(0)
            .planned(0, 2).due(9999).planned(1, 0).due(0).planned(1, 1).due(3).planned(1, 2).due(0);
        new Run(due).typed("2-1@0,1-2@9999").readPlan().planned(0, 0).due(2).planned(0, 1).due(1)
            .planned(0, 2).due(0).planned(1, 0).due(1).planned(1, 1).due(2).planned(1, 2).due(9999);
    }

    private static void plannedOfNoWhat(Due due) {
        Edges.refuse(due, Edges.BAD_VALUE, 0, 2, (run, what) -> run.planned(0, what));
        Run.full(due).planned(-1, 0).refused(Edges.BAD_VALUE).planned(Integer.MIN_VALUE, 2)
            .refused(Edges.BAD_VALUE);
        new Run(due).planned(-1, 0).refused(Edges.BAD_VALUE).planned(0, 3).refused(Edges.BAD_VALUE)
            .planned(99, -1).refused(Edges.BAD_VALUE).planned(0, 0).refused(Edges.NONE);
    }

    private static void plannedOfNotSoMany(Due due) {
        new Run(due).planned(0, 0).refused(Edges.NONE).planned(0, 1).due(Edges.NONE)
            .planned(0, 2).due(Edges.NONE).plan(0, 1, 5).planned(1, 0).refused(Edges.NONE)
            .planned(Integer.MAX_VALUE, 2).refused(Edges.NONE).undo().planned(0, 0).due(Edges.NONE);
        new Run(due).plan(0, 1, 5).plan(0, 1, 6).typed("0-1@7").readPlan().planned(0, 2).due(7)
            .planned(1, 2).due(Edges.NONE);
    }

    private static void tickAndStamps(Due due) {
        new Run(due).count(0).due(0).count(1).due(0).pass(99).count(0).due(99).write(0, 0, 5)
            .count(1).due(1).delete(0, 7).count(1).due(2).read(0, 0).repair(0, 3).count(1).due(2)
            .write(0, 0, 100).write(4, 0, 1).count(1).due(2).undo().undo().count(1).due(1)
            .write(0, 0, 6).count(1).due(2).known(0, 0, 2).due(2);
    }

    /** Node 3 knows a value of key 0, node 0 a ripe grave of it. */
    private static Run haunted(Due due) {
        return new Run(due).set(0, 1).set(2, 1).write(3, 0, 5).delete(0, 0).pass(1);
    }

    private static void eventsSoFar(Due due) {
        Run run = haunted(due).plan(1, 2, 2).plan(1, 3, 2).setUp(1, false);
        for (int what = 2; what <= 5; what++) {
            run.count(what).due(0);
        }
        run.clear(0).count(5).due(1).pass(1).due(0).count(3).due(2).repair(0, 3).count(2).due(1)
            .count(4).due(1).count(3).due(2).count(5).due(1).undo().count(2).due(0).count(4).due(0);
        // Also those that are known no more.
        Run many = new Run(due);
        for (int i = 1; i <= 25; i++) {
            many.repair(0, 1).count(2).due(i);
        }
        many.count(3).due(0).count(4).due(0).count(5).due(0);
    }

    private static void gravesAndHauntingKeys(Due due) {
        Run run = new Run(due).set(0, 4).count(6).due(0).count(7).due(0);
        for (int key = 0; key <= 7; key++) {
            run.write(0, key, 5).count(7).due(key).set(0, 1).delete(3, key).count(6).due(key + 1)
                .count(7).due(key + 1).set(0, 4);
        }
        run.setUp(3, false).count(6).due(8).count(7).due(8).setUp(3, true);
        run.repair(3, 0).repair(3, 1).count(6).due(24).count(7).due(8).repair(3, 2)
            .count(6).due(32).count(7).due(0);
        haunted(due).count(6).due(1).count(7).due(1).clear(0).due(1).count(6).due(0).count(7).due(1);
    }

    private static void planAndNodesUp(Due due) {
        Run run = new Run(due).count(8).due(0).count(9).due(4);
        for (int i = 1; i <= 10; i++) {
            run.plan(0, 1, i).count(8).due(i);
        }
        run.plan(0, 1, 1).count(8).due(10).pass(99).count(8).due(10);
        for (int node = 0; node <= 3; node++) {
            run.setUp(node, false).count(9).due(3 - node).setUp(node, false).count(9).due(3 - node);
        }
        run.setUp(2, true).count(9).due(1);
    }

    private static void gravesNotSettled(Due due) {
        // Each once: known by one node, by two, by three; none when all know it.
        Run run = new Run(due).count(10).due(0).set(0, 1).delete(2, 0).count(10).due(1).repair(2, 3)
            .count(10).due(1).repair(2, 0).count(10).due(1).repair(2, 1).count(10).due(0);
        run.pass(50).clear(0).count(10).due(1).clear(1).clear(2).count(10).due(1).clear(3)
            .count(10).due(0);
        // Several graves of one key, at several nodes; older ones are settled by newer ones.
        new Run(due).set(0, 1).delete(0, 0).delete(1, 0).delete(2, 0).delete(3, 0).count(10).due(3)
            .repair(2, 3).count(10).due(2).repair(1, 0).count(10).due(1).repair(0, 3).repair(1, 2)
            .count(10).due(0);
        // Graves of all keys.
        Run keys = new Run(due).set(0, 3);
        for (int key = 0; key <= 7; key++) {
            keys.delete(1, key).count(10).due(key + 1);
        }
        keys.repair(0, 1).count(10).due(0);
        new Run(due).set(0, 2).delete(0, 0).set(0, 4).write(0, 0, 5).count(10).due(0);
    }

    private static void statesAndText(Due due) {
        Run run = new Run(due).count(11).due(0).count(12).due(0);
        for (int i = 1; i <= 6; i++) {
            run.pass(1).count(11).due(Math.min(i, 4)).type('x').count(12).due(i);
        }
        run.undo().count(11).due(3).count(12).due(6).keep().count(11).due(3).restore()
            .count(11).due(4).clearText().count(12).due(0).count(11).due(4);
        for (int i = 1; i <= 61; i++) {
            run.type('x').count(12).due(Math.min(i, 60));
        }
    }

    private static void countsOfANewObject(Due due) {
        Run run = new Run(due);
        for (int what = 0; what <= 12; what++) {
            run.count(what).due(what == 9 ? 4 : 0);
        }
    }
}
