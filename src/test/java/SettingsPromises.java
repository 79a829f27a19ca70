/** Promises 1 (a new object), 2 (set), 3 (setUp) and 26 (setting). */
final class SettingsPromises {
    private static final int[] LEAST = {1, 1, 1, 0, 0};
    private static final int[] GREATEST = {4, 4, 500, 1, 1};
    private static final int[] FIRST = {2, 2, 50, 0, 1};

    private SettingsPromises() {
    }

    static void tell(Sentences all) {
        all.in("Promise 1")
            .test("Creates four nodes that are up and know nothing.", SettingsPromises::newObject);
        all.in("Promise 2")
            .test("Sets a setting. This is an act.", SettingsPromises::setIsAnAct)
            .test("`which`: 0 to 4", SettingsPromises::setOfEachSetting)
            .test("`value`: in its range", SettingsPromises::setWithinTheRange)
            .test("the previous value", SettingsPromises::setReturnsThePreviousValue)
            .test("UNKNOWN", due -> Edges.refuse(due, Edges.UNKNOWN, 0, 4, (run, which) ->
                run.set(which, 1)))
            .test("BAD_VALUE", SettingsPromises::setBesideTheRange)
            .test("NONE if it is so already.", SettingsPromises::setToWhatItIs);
        all.in("Promise 3")
            .test("Lets a node be up, or down. This is an act.", SettingsPromises::setUpIsAnAct)
            .test("`node`: a node", SettingsPromises::setUpOfEachNode)
            .test("`up`: whether it is up then", SettingsPromises::setUpBothWays)
            .test("how many nodes are up then", SettingsPromises::setUpCountsNodes)
            .test("UNKNOWN", SettingsPromises::setUpOfNoNode)
            .test("NONE if it is so already.", SettingsPromises::setUpToWhatItIs);
        all.in("Promise 26")
            .test("`which`: 0 to 4", SettingsPromises::settingOfEach)
            .test("the setting", SettingsPromises::settingTellsIt)
            .test("UNKNOWN.", due -> Edges.refuse(due, Edges.UNKNOWN, 0, 4, Run::setting));
    }

    private static void newObject(Due due) {
        for (int node = 0; node <= 3; node++) {
            Run run = new Run(due).node(node, 0).due(1);
            for (int what = 1; what <= 5; what++) {
                run.node(node, what).due(0);
            }
            for (int key = 0; key <= 7; key++) {
                run.known(node, key, 0).due(0);
            }
        }
        Run run = new Run(due).node(4, 0).due(-1).count(9).due(4).slowest().due(1).graceNeeded().due(1);
        for (int what = 0; what <= 12; what++) {
            run.count(what).due(what == 9 ? 4 : 0);
        }
    }

    private static void setIsAnAct(Due due) {
        for (int which = 0; which <= 4; which++) {
            int other = FIRST[which] == LEAST[which] ? GREATEST[which] : LEAST[which];
            new Run(due).set(which, other).act(FIRST[which]).undo().due(0)
                .setting(which).due(FIRST[which]);
        }
        Run.full(due).set(2, 77).act(2);
    }

    private static void setOfEachSetting(Due due) {
        for (int which = 0; which <= 4; which++) {
            int other = FIRST[which] == GREATEST[which] ? LEAST[which] : GREATEST[which];
            Run run = new Run(due).set(which, other).due(FIRST[which]);
            for (int each = 0; each <= 4; each++) {
                run.setting(each).due(each == which ? other : FIRST[each]);
            }
        }
        new Run(due).set(-1, 1).refused(Edges.UNKNOWN).set(5, 1).refused(Edges.UNKNOWN);
    }

    private static void setWithinTheRange(Due due) {
        for (int which = 0; which <= 4; which++) {
            Run run = new Run(due);
            int previous = FIRST[which];
            // The edges last, so that each of them is another value than the one before.
            int middle = LEAST[which] + 1 < GREATEST[which] ? LEAST[which] + 1 : previous;
            for (int value : new int[] {middle, LEAST[which], GREATEST[which], LEAST[which]}) {
                run.set(which, value).due(value == previous ? Edges.NONE : previous)
                    .setting(which).due(value);
                previous = value;
            }
        }
    }

    private static void setReturnsThePreviousValue(Due due) {
        new Run(due).set(2, 1).due(50).set(2, 500).due(1).set(2, 499).due(500).set(2, 50).due(499)
            .undo().set(2, 7).due(499);
        new Run(due).set(3, 1).due(0).set(3, 0).due(1).set(4, 0).due(1).set(4, 1).due(0);
        new Run(due).set(0, 1).due(2).set(0, 4).due(1).set(1, 4).due(2).set(1, 1).due(4);
    }

    private static void setBesideTheRange(Due due) {
        for (int each = 0; each <= 4; each++) {
            int which = each;
            Edges.refuse(due, Edges.BAD_VALUE, LEAST[which], GREATEST[which], (run, value) ->
                run.set(which, value));
        }
    }

    private static void setToWhatItIs(Due due) {
        for (int which = 0; which <= 4; which++) {
            int other = FIRST[which] == LEAST[which] ? GREATEST[which] : LEAST[which];
            new Run(due).set(which, FIRST[which]).refused(Edges.NONE).count(11).due(0)
                .set(which, other).due(FIRST[which]).set(which, other).refused(Edges.NONE)
                .count(11).due(1);
        }
        Run.full(due).set(0, 3).refused(Edges.NONE).set(2, 2).refused(Edges.NONE);
    }

    private static void setUpIsAnAct(Due due) {
        new Run(due).setUp(2, false).act(3).setUp(2, true).act(4).undo().due(1).node(2, 0).due(0);
        Run.full(due).setUp(3, true).act(4);
        Run.full(due).setUp(0, false).act(2);
    }

    private static void setUpOfEachNode(Due due) {
        for (int node = 0; node <= 3; node++) {
            Run run = new Run(due).setUp(node, false).due(3);
            for (int each = 0; each <= 3; each++) {
                run.node(each, 0).due(each == node ? 0 : 1);
            }
        }
        new Run(due).setUp(-1, false).refused(Edges.UNKNOWN).setUp(4, false).refused(Edges.UNKNOWN);
    }

    private static void setUpBothWays(Due due) {
        new Run(due).setUp(0, false).node(0, 0).due(0).setUp(0, true).node(0, 0).due(1)
            .setUp(0, true).due(Edges.NONE).node(0, 0).due(1);
        // A node that was down knows what it knew.
        new Run(due).write(0, 0, 5).setUp(0, false).known(0, 0, 1).due(5).setUp(0, true)
            .known(0, 0, 1).due(5).read(0, 0).due(5);
    }

    private static void setUpCountsNodes(Due due) {
        new Run(due).setUp(0, false).due(3).setUp(3, false).due(2).setUp(1, false).due(1)
            .setUp(2, false).due(0).count(9).due(0).setUp(2, true).due(1).setUp(0, true).due(2)
            .setUp(3, true).due(3).setUp(1, true).due(4);
        // No node is up: none can do anything.
        Run none = new Run(due).setUp(0, false).setUp(1, false).setUp(2, false).setUp(3, false);
        for (int node = 0; node <= 3; node++) {
            none.write(node, 0, 1).refused(Edges.NOT_POSSIBLE).read(node, 0)
                .refused(Edges.NOT_POSSIBLE);
        }
    }

    private static void setUpOfNoNode(Due due) {
        Edges.refuseNodes(due, (run, node) -> run.setUp(node, true));
        Edges.refuseNodes(due, (run, node) -> run.setUp(node, false));
    }

    private static void setUpToWhatItIs(Due due) {
        for (int node = 0; node <= 3; node++) {
            new Run(due).setUp(node, true).refused(Edges.NONE).setUp(node, false).due(3)
                .setUp(node, false).refused(Edges.NONE).count(11).due(1);
        }
        Run.full(due).setUp(3, false).refused(Edges.NONE).setUp(0, true).refused(Edges.NONE);
    }

    private static void settingOfEach(Due due) {
        Run run = new Run(due);
        for (int which = 0; which <= 4; which++) {
            run.setting(which).due(FIRST[which]);
        }
        run.setting(-1).refused(Edges.UNKNOWN).setting(5).refused(Edges.UNKNOWN);
    }

    private static void settingTellsIt(Due due) {
        for (int which = 0; which <= 4; which++) {
            int other = FIRST[which] == LEAST[which] ? GREATEST[which] : LEAST[which];
            new Run(due).set(which, other).setting(which).due(other).undo().setting(which)
                .due(FIRST[which]);
        }
    }
}
