/** Of the terms: the plan, events, texts. */
final class PlansTerms {
    private PlansTerms() {
    }

    static void tell(Sentences all) {
        all.in("Terms")
            .test("There is a plan of at most 10 repairs", PlansTerms::tenRepairs)
            .test("each between two nodes in a tick (0 to 9999)", PlansTerms::ticksOfThePlan)
            .test("in the order in which they were added.", PlansTerms::orderOfAdding)
            .test("When a tick passes, the tick (0 at first) becomes greater by 1",
                PlansTerms::tickBecomesGreater)
            .test("then the repairs of the plan with this tick are done, in their order",
                PlansTerms::repairsWithThisTick)
            .test("one for which any node of it is down is missed.", PlansTerms::missedRepairs)
            .test("Repairs that were done or missed stay in the plan.", PlansTerms::stayInThePlan)
            .test("The latest 10 events are known", PlansTerms::tenEvents)
            .test("0 a repair, 1 a repair that was missed, 2 a key came back",
                PlansTerms::kindsOfEvents)
            .test("3 a node was cleared (of one grave at least)", PlansTerms::clearedOfOneAtLeast)
            .test("each with its tick, and two numbers: both nodes of a repair, the lesser one first",
                PlansTerms::lesserNodeFirst)
            .test("(ahead of what comes back by it)", PlansTerms::repairAheadOfWhatComesBack)
            .test("the node and the key; the node and how many graves.", PlansTerms::numbersOfEvents)
            .test("There is a text of at most 60 characters, empty at first.", PlansTerms::sixtySigns)
            .test("A text of a plan is one or more repairs with \",\" between two: a node (0 to 3), "
                + "\"-\", another node, \"@\", and a tick", PlansTerms::repairsOfATextWithFaults)
            .test("(one to four digits, without a zero in front unless it is the single digit 0)",
                PlansTerms::digitsOfATick)
            .test("The fault of the text is the index, from 0, of the first character that is not "
                + "allowed at its place", PlansTerms::firstFault)
            .test("(the same node as the one ahead of \"-\", too)", PlansTerms::sameNode)
            .test("or the length of the text if it ends too early", PlansTerms::endsTooEarly)
            .test("(the empty text does).", PlansTerms::emptyText);
    }

    private static Run tenPlanned(Due due) {
        Run run = new Run(due);
        for (int i = 1; i <= 10; i++) {
            run.plan(i % 4, (i + 1) % 4, i).due(i);
        }
        return run;
    }

    private static void tenRepairs(Due due) {
        new Run(due).count(8).due(0).planned(0, 0).due(Edges.NONE);
        Run run = tenPlanned(due).count(8).due(10);
        for (int place = 0; place <= 9; place++) {
            run.planned(place, 0).due((place + 1) % 4).planned(place, 1).due((place + 2) % 4)
                .planned(place, 2).due(place + 1);
        }
        run.planned(10, 0).due(Edges.NONE);
        tenPlanned(due).plan(0, 1, 5).refused(Edges.FULL);
        tenPlanned(due).pass(99).due(10).plan(0, 1, 5).refused(Edges.FULL);
    }

    private static void ticksOfThePlan(Due due) {
        new Run(due).plan(0, 1, 0).act(1).planned(0, 2).due(0).plan(0, 1, 9999).act(2)
            .planned(1, 2).due(9999);
        new Run(due).plan(0, 1, -1).refused(Edges.BAD_VALUE);
        new Run(due).plan(0, 1, 10000).refused(Edges.BAD_VALUE);
        // The greatest tick of a plan passes as each other one: 101 times 99 is 9999.
        Run run = new Run(due).plan(2, 1, 9999).passed(9999 - 1).count(2).due(0).pass(1).due(1);
        run.pair(1, 2, 0).due(9999).pass(1).due(0).event(0, 1).due(9999);
    }

    private static void orderOfAdding(Due due) {
        Run run = new Run(due).plan(3, 2, 5).plan(0, 1, 1).plan(0, 1, 1).plan(1, 3, 3);
        run.planned(0, 2).due(5).planned(1, 2).due(1).planned(2, 2).due(1).planned(3, 2).due(3)
            .planned(0, 0).due(3).planned(3, 1).due(3).planned(4, 2).due(Edges.NONE);
    }

    private static void tickBecomesGreater(Due due) {
        new Run(due).count(0).due(0).pass(1).count(0).due(1).pass(1).count(0).due(2)
            .pass(99).count(0).due(101).undo().count(0).due(2);
        new Run(due).keep().due(0).write(0, 0, 5).known(0, 0, 3).due(0);
    }

    private static void repairsWithThisTick(Due due) {
        // Not those of a tick that is already: not of 0 at first, not of the tick of adding.
        new Run(due).plan(0, 1, 0).pass(99).due(0).pair(0, 1, 0).due(Edges.NONE);
        new Run(due).pass(5).plan(0, 1, 5).plan(0, 2, 4).pass(9).due(0).count(2).due(0);
        // The first and the last of the ticks that pass, and those beside them.
        new Run(due).pass(5).plan(0, 1, 6).plan(2, 3, 104).plan(1, 2, 105).pass(99).due(2)
            .pair(0, 1, 0).due(6).pair(2, 3, 0).due(104).pair(1, 2, 0).due(Edges.NONE)
            .pass(1).due(1).pair(1, 2, 0).due(105);
        // In the order of the plan: what 1 knows goes to 2, and from there to 3, not the other way.
        Run order = new Run(due).set(0, 1).write(1, 0, 5).write(3, 1, 6).plan(2, 1, 2).plan(3, 2, 2)
            .plan(0, 3, 1).pass(2).due(3);
        order.known(3, 0, 1).due(5).known(3, 0, 6).due(2).known(0, 0, 0).due(0).known(0, 1, 1).due(6)
            .known(1, 1, 0).due(0).event(0, 2).due(2).event(1, 2).due(1).event(2, 2).due(0)
            .event(0, 1).due(2).event(2, 1).due(1);
        // An earlier tick goes first, whatever the order of adding.
        new Run(due).plan(0, 1, 2).plan(2, 3, 1).pass(2).due(2).event(0, 2).due(0).event(1, 2).due(2);
    }

    private static void missedRepairs(Due due) {
        for (int down = 0; down <= 1; down++) {
            Run run = new Run(due).set(0, 1).write(0, 0, 5).plan(0, 1, 1).plan(2, 3, 1)
                .setUp(down, false).pass(1).due(1);
            run.count(3).due(1).count(2).due(1).event(1, 0).due(1).event(1, 1).due(1)
                .event(1, 2).due(0).event(1, 3).due(1).event(0, 0).due(0)
                .pair(0, 1, 0).due(Edges.NONE).known(1, 0, 0).due(0);
        }
        new Run(due).plan(3, 2, 1).setUp(2, false).setUp(3, false).pass(1).due(0)
            .event(0, 0).due(1).event(0, 2).due(2).event(0, 3).due(3).count(3).due(1)
            .event(1, 0).due(Edges.NONE);
        // Missed once: it is not done later, when both are up.
        new Run(due).plan(0, 1, 1).setUp(1, false).pass(1).setUp(1, true).pass(9).due(0)
            .pair(0, 1, 0).due(Edges.NONE);
    }

    private static void stayInThePlan(Due due) {
        Run run = new Run(due).plan(0, 1, 1).plan(2, 3, 1).setUp(3, false).pass(5).due(1)
            .count(8).due(2).planned(0, 2).due(1).planned(1, 0).due(2).planned(1, 2).due(1);
        run.pass(5).due(0).count(8).due(2);
    }

    private static void tenEvents(Due due) {
        new Run(due).event(0, 0).due(Edges.NONE).event(9, 3).due(Edges.NONE);
        for (int events : new int[] {1, 9, 10, 11, 19, 20, 21, 30, 31}) {
            Run run = new Run(due);
            for (int i = 1; i <= events; i++) {
                run.pass(1).repair(i % 3, 3);
            }
            int known = Math.min(events, 10);
            for (int back = 0; back < known; back++) {
                run.event(back, 1).due(events - back).event(back, 2).due((events - back) % 3);
            }
            run.event(known, 0).due(Edges.NONE).event(known, 1).due(Edges.NONE)
                .event(10, 1).due(Edges.NONE).count(2).due(events);
        }
    }

    /** Node 3 knows a value that the others have cleared the grave of, in tick 2. */
    private static Run cleared(Due due) {
        return new Run(due).set(0, 4).set(2, 1).write(0, 6, 60).setUp(3, false).delete(0, 6).pass(2)
            .clear(0).clear(1).clear(2).setUp(3, true);
    }

    private static void kindsOfEvents(Due due) {
        Run run = cleared(due).plan(0, 1, 3).plan(1, 2, 4).setUp(2, false).pass(1).due(1)
            .event(0, 0).due(0).pass(1).due(0).event(0, 0).due(1).event(0, 2).due(1)
            .event(0, 3).due(2).repair(3, 0).due(1).event(0, 0).due(2);
        run.count(2).due(2).count(3).due(1).count(4).due(1).count(5).due(3);
    }

    private static void clearedOfOneAtLeast(Due due) {
        Run none = new Run(due).delete(0, 0).write(0, 1, 5).clear(0).refused(Edges.NONE)
            .event(0, 0).due(Edges.NONE).count(5).due(0);
        none.pass(49).clear(0).refused(Edges.NONE).pass(1).clear(0).act(1).event(0, 0).due(3)
            .event(0, 1).due(50).event(0, 2).due(0).event(0, 3).due(1).count(5).due(1)
            .clear(0).refused(Edges.NONE).count(5).due(1);
    }

    private static void lesserNodeFirst(Due due) {
        for (int one = 0; one <= 3; one++) {
            for (int other = 0; other <= 3; other++) {
                if (one != other) {
                    int lesser = Math.min(one, other);
                    int greater = Math.max(one, other);
                    new Run(due).pass(2).repair(one, other).event(0, 0).due(0).event(0, 1).due(2)
                        .event(0, 2).due(lesser).event(0, 3).due(greater);
                    new Run(due).plan(one, other, 1).pass(3).event(0, 0).due(0).event(0, 1).due(1)
                        .event(0, 2).due(lesser).event(0, 3).due(greater);
                    new Run(due).plan(one, other, 1).setUp(one, false).pass(3).event(0, 0).due(1)
                        .event(0, 1).due(1).event(0, 2).due(lesser).event(0, 3).due(greater);
                }
            }
        }
    }

    private static void repairAheadOfWhatComesBack(Due due) {
        Run run = cleared(due).repair(3, 0).due(1);
        run.event(0, 0).due(2).event(1, 0).due(0).event(1, 2).due(0).event(1, 3).due(3)
            .event(2, 0).due(3).plan(1, 0, 3).pass(1).event(0, 0).due(2).event(0, 2).due(1)
            .event(1, 0).due(0).event(1, 2).due(0);
    }

    private static void numbersOfEvents(Due due) {
        cleared(due).event(0, 1).due(2).event(0, 2).due(2).event(0, 3).due(1)
            .event(2, 2).due(0).event(2, 3).due(1).repair(1, 3).event(0, 1).due(2)
            .event(0, 2).due(1).event(0, 3).due(6).read(1, 6).due(60).pass(3).read(2, 6).due(60)
            .event(0, 0).due(2).event(0, 1).due(2).event(0, 2).due(2).event(0, 3).due(6);
        Run all = new Run(due).set(0, 4).set(2, 1);
        for (int key = 0; key <= 7; key++) {
            all.delete(0, key);
        }
        all.pass(1).clear(3).due(8).event(0, 2).due(3).event(0, 3).due(8);
    }

    private static void sixtySigns(Due due) {
        Run run = new Run(due).count(12).due(0).clearText().due(0);
        for (int length = 1; length <= 60; length++) {
            run.type('x').due(length).count(12).due(length);
        }
        run.type('x').refused(Edges.FULL).count(12).due(60).clearText().due(60).count(12).due(0)
            .type('x').due(1);
    }

    /** A text that ends the plan 2-3@4 stays as it was if it has the fault, and is refused. */
    private static void fault(Due due, String text, int fault) {
        new Run(due).plan(2, 3, 4).typed(text).readPlan().refused(-100 - fault);
    }

    private static void plan(Due due, String text, int... wanted) {
        Run run = new Run(due).plan(2, 3, 4).typed(text).readPlan().act(wanted.length / 3)
            .count(8).due(wanted.length / 3).count(12).due(text.length());
        for (int i = 0; i < wanted.length; i++) {
            run.planned(i / 3, i % 3).due(wanted[i]);
        }
        run.planned(wanted.length / 3, 0).due(Edges.NONE);
    }

    private static void repairsOfATextWithFaults(Due due) {
        for (int one = 0; one <= 3; one++) {
            for (int other = 0; other <= 3; other++) {
                if (one != other) {
                    plan(due, one + "-" + other + "@7", one, other, 7);
                }
            }
        }
        plan(due, "0-3@1,3-0@1", 0, 3, 1, 3, 0, 1);
        plan(due, "0-1@5,0-1@5,2-1@0", 0, 1, 5, 0, 1, 5, 2, 1, 0);
        // The signs beside the digits 0 to 3, and those that look like them.
        for (int sign : new int[] {'/', '4', '9', ':', 'a', ' ', '-', 0, '0' + 256, 0xff10, 0xffff}) {
            fault(due, (char) sign + "-1@7", 0);
            fault(due, "1-" + (char) sign + "@7", 2);
            fault(due, "0-1@7," + (char) sign + "-1@7", 6);
        }
        for (int sign : new int[] {',', '.', '@', '1', '-' + 256, 0x2212}) {
            fault(due, "0" + (char) sign + "1@7", 1);
        }
        for (int sign : new int[] {'?', 'A', '-', '1', ',', '@' + 256}) {
            fault(due, "0-1" + (char) sign + "7", 3);
        }
        for (int sign : new int[] {';', '+', '-', '@', ' ', ',' + 256}) {
            fault(due, "0-1@7" + (char) sign + "2-3@7", 5);
        }
        fault(due, ",0-1@7", 0);
        fault(due, "0-1@7,,2-3@7", 6);
    }

    private static void digitsOfATick(Due due) {
        plan(due, "0-1@0", 0, 1, 0);
        plan(due, "0-1@9", 0, 1, 9);
        plan(due, "0-1@10", 0, 1, 10);
        plan(due, "0-1@100", 0, 1, 100);
        plan(due, "0-1@1000", 0, 1, 1000);
        plan(due, "0-1@9999", 0, 1, 9999);
        plan(due, "0-1@0,1-2@9999,2-3@10", 0, 1, 0, 1, 2, 9999, 2, 3, 10);
        fault(due, "0-1@00", 5);
        fault(due, "0-1@01", 5);
        fault(due, "0-1@0123", 5);
        fault(due, "0-1@10000", 8);
        fault(due, "0-1@99999", 8);
        fault(due, "0-1@5,1-2@00", 11);
        fault(due, "0-1@5,1-2@12345", 14);
        for (int sign : new int[] {'/', ':', '-', ',', '5' + 256, 0xff15}) {
            fault(due, "0-1@" + (char) sign, 4);
        }
        for (int sign : new int[] {'/', ':', '-', '5' + 256, 0xff15}) {
            fault(due, "0-1@5" + (char) sign, 5);
            fault(due, "0-1@1234" + (char) sign, 8);
        }
    }

    private static void firstFault(Due due) {
        fault(due, "x-x@x", 0);
        fault(due, "0xx@x", 1);
        fault(due, "0-x@x", 2);
        fault(due, "0-1xx", 3);
        fault(due, "0-1@x", 4);
        fault(due, "0-1@5x", 5);
        fault(due, "0-1@5,x", 6);
        fault(due, "0-1@5,0-0@5,1-1@5", 8);
        // The last of 60 characters.
        fault(due, "0-1@1,1-2@2,1-2@3,1-2@4,1-2@5,1-2@6,1-2@7,1-2@8,1-2@9,3-2@1x", 59);
        fault(due, "x-1@1,1-2@2,1-2@3,1-2@4,1-2@5,1-2@6,1-2@7,1-2@8,1-2@9,3-2@10", 0);
    }

    private static void sameNode(Due due) {
        for (int node = 0; node <= 3; node++) {
            fault(due, node + "-" + node + "@5", 2);
            fault(due, node + "-" + node, 2);
            fault(due, "0-1@5,2-3@5," + node + "-" + node + "@5", 14);
        }
        // The one ahead of "-", not another one.
        plan(due, "0-1@1,2-1@1,1-2@1,2-0@1", 0, 1, 1, 2, 1, 1, 1, 2, 1, 2, 0, 1);
    }

    private static void endsTooEarly(Due due) {
        fault(due, "0", 1);
        fault(due, "0-", 2);
        fault(due, "0-1", 3);
        fault(due, "0-1@", 4);
        fault(due, "0-1@5,", 6);
        fault(due, "0-1@0,", 6);
        fault(due, "0-1@1234,", 9);
        fault(due, "0-1@5,2", 7);
        fault(due, "0-1@5,2-", 8);
        fault(due, "0-1@5,2-3", 9);
        fault(due, "0-1@5,2-3@", 10);
        String nine = "0-1@1,1-2@2,1-2@3,1-2@4,1-2@5,1-2@6,1-2@7,1-2@8,1-2@9,";
        fault(due, nine + "1-2@1,", 60);
        fault(due, nine, 54);
    }

    private static void emptyText(Due due) {
        fault(due, "", 0);
        new Run(due).plan(2, 3, 4).typed("0-1@5").clearText().readPlan().refused(-100);
    }
}
