/** Promises 9 (plan), 10 (readPlan), 11 (pass), 12 (type) and 13 (clearText). */
final class PlansPromises {
    private static final String TEN =
        "0-1@1,1-2@2,1-2@3,1-2@4,1-2@5,1-2@6,1-2@7,1-2@8,1-2@9,3-2@10";

    private PlansPromises() {
    }

    static void tell(Sentences all) {
        all.in("Promise 9")
            .test("Adds a repair to the plan. This is an act.", PlansPromises::planIsAnAct)
            .test("`one`: a node", PlansPromises::planOfEachPair)
            .test("`other`: another node", PlansPromises::planOfTheSameNode)
            .test("`tick`: 0 to 9999", PlansPromises::planWithinTheTicks)
            .test("how many there are then", PlansPromises::planCountsRepairs)
            .test("UNKNOWN (one or other)", PlansPromises::planOfNoNode)
            .test("BAD_VALUE (tick, or both nodes are the same)", PlansPromises::planBesideTheTicks)
            .test("FULL if there are 10.", PlansPromises::planIsFull);
        all.in("Promise 10")
            .test("Makes the repairs of the text, which stays, the plan. This is an act.",
                PlansPromises::readPlanIsAnAct)
            .test("how many there are then", PlansPromises::readPlanCountsRepairs)
            .test("-100 minus the fault of the text if it has one (which is an error)",
                PlansPromises::readPlanOfAFault)
            .untested("FULL if there are more than 10.", "60 characters hold ten repairs at most: n "
                + "repairs of five characters or more, with \",\" between two, take 6n - 1 or more");
        all.in("Promise 11")
            .test("Lets ticks pass. This is an act.", PlansPromises::passIsAnAct)
            .test("`ticks`: 1 to 99", PlansPromises::passOfEachNumber)
            .test("how many repairs of the plan are done in them", PlansPromises::passCountsRepairs)
            .test("BAD_VALUE", due -> Edges.refuse(due, Edges.BAD_VALUE, 1, 99, Run::pass))
            .untested("FULL if the tick would be more than 99999.", "512 calls of 99 ticks each end "
                + "at 50688, and undo() and restore() bring back only ticks that have been");
        all.in("Promise 12")
            .test("Types a character behind the text.", PlansPromises::typeBehindTheText)
            .test("`character`: any character", PlansPromises::typeAnyCharacter)
            .test("the length of the text then", PlansPromises::typeTellsTheLength)
            .test("FULL if it has 60 characters.", PlansPromises::typeIsFull);
        all.in("Promise 13")
            .test("Empties the text.", PlansPromises::clearTextEmpties)
            .test("the length that it had.", PlansPromises::clearTextTellsTheLength);
    }

    private static Run tenPlanned(Due due) {
        Run run = new Run(due);
        for (int i = 0; i < 10; i++) {
            run.plan(3, 2, i);
        }
        return run;
    }

    private static void planIsAnAct(Due due) {
        new Run(due).plan(0, 1, 5).act(1).changes().plan(0, 1, 5).act(2).changes().undo().due(1)
            .count(8).due(1).planned(1, 0).due(Edges.NONE);
        Run.full(due).plan(3, 0, 7).act(4).planned(3, 0).due(3).planned(3, 1).due(0)
            .planned(3, 2).due(7);
    }

    private static void planOfEachPair(Due due) {
        for (int one = 0; one <= 3; one++) {
            for (int other = 0; other <= 3; other++) {
                if (one != other) {
                    new Run(due).plan(one, other, 5).due(1).planned(0, 0).due(one)
                        .planned(0, 1).due(other);
                }
            }
        }
        Edges.refuseNodes(due, (run, one) -> run.plan(one, 0, 5));
    }

    private static void planOfTheSameNode(Due due) {
        for (int node = 0; node <= 3; node++) {
            Run.full(due).plan(node, node, 5).refused(Edges.BAD_VALUE);
        }
    }

    private static void planWithinTheTicks(Due due) {
        for (int tick : new int[] {0, 1, 9998, 9999}) {
            new Run(due).plan(0, 1, tick).act(1).planned(0, 2).due(tick);
        }
        // A tick that has passed can be planned too; nodes that are down as well.
        new Run(due).pass(9).setUp(0, false).plan(0, 1, 3).act(1).planned(0, 2).due(3);
    }

    private static void planCountsRepairs(Due due) {
        Run run = new Run(due);
        for (int i = 1; i <= 10; i++) {
            run.plan(0, 1, 5).due(i).count(8).due(i);
        }
    }

    private static void planOfNoNode(Due due) {
        Edges.refuseNodes(due, (run, one) -> run.plan(one, 1, 5));
        Edges.refuseNodes(due, (run, other) -> run.plan(1, other, 5));
        Edges.refuseNodes(due, (run, both) -> run.plan(both, both, 5));
    }

    private static void planBesideTheTicks(Due due) {
        Edges.refuse(due, Edges.BAD_VALUE, 0, 9999, (run, tick) -> run.plan(0, 1, tick));
        Edges.refuse(due, Edges.BAD_VALUE, 0, 9999, (run, tick) -> run.plan(1, 1, tick));
        Run.full(due).plan(2, 2, 0).refused(Edges.BAD_VALUE);
    }

    private static void planIsFull(Due due) {
        tenPlanned(due).count(8).due(10).plan(0, 1, 5).refused(Edges.FULL)
            .plan(0, 1, 5).refused(Edges.FULL);
        tenPlanned(due).undo().plan(0, 1, 5).act(10).plan(0, 1, 5).refused(Edges.FULL);
        new Run(due).typed(TEN).readPlan().due(10).plan(0, 1, 5).refused(Edges.FULL).planned(9, 2)
            .due(10);
    }

    private static void readPlanIsAnAct(Due due) {
        new Run(due).plan(0, 1, 8).plan(0, 1, 9).typed("3-2@7").readPlan().act(1).changes()
            .count(12).due(5).planned(0, 0).due(3).planned(0, 1).due(2).planned(0, 2).due(7)
            .planned(1, 0).due(Edges.NONE).undo().due(2).count(8).due(2).planned(1, 2).due(9)
            .count(12).due(5).readPlan().due(1);
        Run.full(due).readPlan().act(2).planned(1, 0).due(3).planned(1, 1).due(2)
            .planned(1, 2).due(9999).readPlan().act(2);
        // In place of a plan that is full.
        tenPlanned(due).typed("0-1@5").readPlan().act(1).count(8).due(1);
        tenPlanned(due).typed(TEN).readPlan().act(10).planned(0, 0).due(0);
    }

    private static void readPlanCountsRepairs(Due due) {
        for (int repairs = 1; repairs <= 10; repairs++) {
            String text = TEN.substring(0, Math.min(6 * repairs - 1, 53))
                + (repairs == 10 ? ",0-3@99" : "");
            new Run(due).typed(text).readPlan().due(repairs).count(8).due(repairs)
                .planned(repairs - 1, 0).due(repairs == 1 || repairs == 10 ? 0 : 1)
                .planned(repairs, 0).due(Edges.NONE);
        }
        new Run(due).typed(TEN).count(12).due(60).readPlan().due(10).planned(9, 0).due(3)
            .planned(9, 2).due(10);
    }

    private static void readPlanOfAFault(Due due) {
        Run.full(due).clearText().readPlan().refused(-100);
        Run.full(due).clearText().typed("4-1@5").readPlan().refused(-100);
        Run.full(due).clearText().typed("0-0@5").readPlan().refused(-102);
        Run.full(due).clearText().typed("0-1@").readPlan().refused(-104);
        Run.full(due).typed(",").readPlan().refused(-115);
        Run.full(due).typed("9").readPlan().refused(-114);
        // The last of 60 characters, and behind it.
        new Run(due).typed(TEN.substring(0, 59) + "x").readPlan().refused(-159);
        new Run(due).typed(TEN.substring(0, 53) + ",1-2@1,").count(12).due(60).readPlan()
            .refused(-160);
        tenPlanned(due).typed("x").readPlan().refused(-100);
    }

    private static void passIsAnAct(Due due) {
        new Run(due).pass(1).act(0).changes().pass(99).act(0).changes().undo().due(1).count(0).due(1);
        // One act, however many ticks: undo() takes back all of them, and the repairs.
        new Run(due).set(0, 1).write(0, 0, 5).plan(0, 1, 1).plan(1, 2, 50).plan(2, 3, 99).pass(99)
            .act(3).known(3, 0, 1).due(5).undo().due(3).count(0).due(0).known(1, 0, 0).due(0)
            .count(2).due(0);
    }

    private static void passOfEachNumber(Due due) {
        for (int ticks = 1; ticks <= 99; ticks++) {
            new Run(due).pass(ticks).due(0).count(0).due(ticks).pass(1).count(0).due(ticks + 1);
        }
        Run.full(due).pass(0).refused(Edges.BAD_VALUE).pass(100).refused(Edges.BAD_VALUE);
    }

    private static void passCountsRepairs(Due due) {
        new Run(due).pass(9).due(0);
        tenPlanned(due).pass(9).due(9).pass(9).due(0);
        tenPlanned(due).setUp(2, false).pass(9).due(0).count(3).due(9);
        new Run(due).plan(0, 1, 1).plan(0, 1, 1).plan(2, 3, 1).setUp(3, false).pass(1).due(2);
        new Run(due).plan(0, 1, 1).plan(0, 1, 99).plan(0, 1, 100).pass(99).due(2).pass(99).due(1);
        // The number is that of this call alone, and that of repairs alone.
        new Run(due).repair(0, 1).plan(0, 1, 1).plan(0, 1, 2).pass(1).due(1).pass(1).due(1);
    }

    private static void typeBehindTheText(Due due) {
        new Run(due).typed("2-3").type('@').due(4).type('1').due(5).type('2').due(6).readPlan().due(1)
            .planned(0, 0).due(2).planned(0, 1).due(3).planned(0, 2).due(12);
        // It is no act, and changes nothing but the text.
        Run.full(due).type('9').due(15).stateAsBehind(Run.full(due)).count(11).due(4);
        Run.full(due).type('x').clearText().typed("0-1@7,3-2@9999").asBehind(Run.full(due));
    }

    private static void typeAnyCharacter(Due due) {
        for (int character : new int[] {0, 1, 9, 10, 31, 32, 126, 127, 128, 255, 256, 0xd800, 0xdfff,
            0xfffe, 0xffff}) {
            new Run(due).type(character).due(1).type(character).due(2).count(12).due(2)
                .readPlan().refused(-100).clearText().due(2);
        }
    }

    private static void typeTellsTheLength(Due due) {
        Run run = new Run(due);
        for (int length = 1; length <= 60; length++) {
            run.type('-').due(length);
        }
        run.clearText().type('-').due(1).type('-').due(2);
    }

    private static void typeIsFull(Due due) {
        Run run = new Run(due).plan(0, 1, 1).typed(TEN).count(12).due(60).type('0')
            .refused(Edges.FULL).type(',').refused(Edges.FULL);
        run.readPlan().due(10).type('x').refused(Edges.FULL).clearText().due(60).type('x').due(1);
        new Run(due).typed(TEN.substring(0, 59)).type('0').due(60).type('0').refused(Edges.FULL);
    }

    private static void clearTextEmpties(Due due) {
        new Run(due).typed("0-1@5").clearText().due(5).count(12).due(0).readPlan().refused(-100)
            .typed("2-1@7").readPlan().due(1).planned(0, 0).due(2).planned(0, 2).due(7);
        // It is no act, and changes nothing but the text.
        Run.full(due).clearText().due(14).stateAsBehind(Run.full(due)).count(11).due(4)
            .typed("0-1@7,3-2@9999").asBehind(Run.full(due));
    }

    private static void clearTextTellsTheLength(Due due) {
        new Run(due).clearText().due(0).clearText().due(0).type('x').clearText().due(1).clearText()
            .due(0).count(11).due(0);
        new Run(due).typed(TEN).clearText().due(60).clearText().due(0);
        new Run(due).typed(TEN.substring(1)).clearText().due(59);
    }
}
