/** Promises 7 (repair), 8 (clear), 9 (plan) and 11 (pass). */
public final class RepairsTest {
    private static final Due due = new Due();

    public static void main(String[] args) {
        repairErrors();
        repairsOfAllKeys();
        comingBackByRepairs();
        newerValuesDoNotComeBackTwice();
        clearErrors();
        clearingByAge();
        clearingByRepairs();
        clearingByRepairsLooksAtWhenItWasLearned();
        planErrors();
        passErrors();
        plannedRepairs();
        due.end();
    }

    private static void repairErrors() {
        KeyGraves x = new KeyGraves();
        x.setUp(3, false);
        due.is("repair(-1, 0)", x.repair(-1, 0), -1);
        due.is("repair(4, 0)", x.repair(4, 0), -1);
        due.is("repair(0, -1)", x.repair(0, -1), -1);
        due.is("repair(0, 4)", x.repair(0, 4), -1);
        due.is("repair(4, 4)", x.repair(4, 4), -1);
        due.is("repair(3, 3)", x.repair(3, 3), -2);
        due.is("repair(1, 1)", x.repair(1, 1), -2);
        due.is("repair(3, 0)", x.repair(3, 0), -4);
        due.is("repair(0, 3)", x.repair(0, 3), -4);
        due.is("no act", x.count(11), 1);
        due.is("no event", x.count(2) + x.count(3), 0);
        due.is("repair(2, 1)", x.repair(2, 1), 0);
        due.is("an act", x.count(11), 2);
        due.is("an event", x.event(0, 0), 0);
        due.is("the lesser node first", x.event(0, 2), 1);
        due.is("the greater node", x.event(0, 3), 2);
        due.is("both ways", x.pair(1, 2, 0) + x.pair(2, 1, 0), 0);
        due.is("no other pair", x.pair(0, 1, 0), -5);
    }

    private static void repairsOfAllKeys() {
        KeyGraves x = new KeyGraves();
        x.set(0, 1);
        x.write(0, 0, 1);
        x.write(0, 1, 2);
        x.write(1, 1, 3);
        x.delete(1, 2);
        x.set(0, 2);
        x.write(0, 3, 4);
        x.pass(9);
        due.is("three keys are known otherwise", x.pair(0, 1, 1), 3);
        due.is("repair(1, 0)", x.repair(1, 0), 3);
        due.is("key 0 at 1", x.known(1, 0, 1), 1);
        due.is("key 1 at 0", x.known(0, 1, 1), 3);
        due.is("key 1 at 1", x.known(1, 1, 1), 3);
        due.is("key 2 at 0", x.known(0, 2, 0), 2);
        due.is("key 0 was learned at 1", x.known(1, 0, 6), 9);
        due.is("with its tick", x.known(1, 0, 3), 0);
        due.is("key 0 was learned at 0 before", x.known(0, 0, 6), 0);
        due.is("key 3 was learned at 1 before", x.known(1, 3, 6), 0);
        due.is("nothing is known otherwise", x.pair(1, 0, 1), 0);
        due.is("the tick of it", x.pair(1, 0, 0), 9);
        due.is("repair(0, 1)", x.repair(0, 1), 0);
        due.is("two repairs", x.count(2), 2);
        due.is("nothing came back", x.count(4), 0);
    }

    /** A key that each of two nodes has cleared, and another that the other one has. */
    private static KeyGraves hauntedTwice() {
        KeyGraves x = new KeyGraves();
        x.set(0, 1);
        x.set(2, 1);
        x.write(0, 6, 60);
        x.write(1, 5, 50);
        x.delete(2, 5);
        x.delete(2, 6);
        x.pass(2);
        return x;
    }

    private static void comingBackByRepairs() {
        KeyGraves x = hauntedTwice();
        due.is("two keys haunt", x.count(7), 2);
        due.is("repair(1, 0)", x.repair(1, 0), 2);
        due.is("two came back", x.count(4), 2);
        due.is("the repair is ahead", x.event(2, 0), 0);
        due.is("key 5 first", x.event(1, 3), 5);
        due.is("at node 0", x.event(1, 2), 0);
        due.is("key 6 then", x.event(0, 3), 6);
        due.is("at node 1", x.event(0, 2), 1);
        due.is("in tick 2", x.event(0, 1), 2);
        due.is("repair(0, 2)", x.repair(0, 2), 2);
        due.is("0 is not haunted", x.node(0, 5), 0);
        due.is("1 still is", x.node(1, 5), 2);
        x.clear(0);
        due.is("a cleared node", x.repair(0, 1), 2);
        due.is("both keys come back once more", x.count(4), 4);
        due.is("grave and value", x.repair(2, 1), 2);
        due.is("no more come back", x.count(4), 4);
    }

    private static void newerValuesDoNotComeBackTwice() {
        KeyGraves x = new KeyGraves();
        x.set(0, 1);
        x.write(0, 1, 10);
        x.write(1, 1, 11);
        x.delete(2, 1);
        due.is("both are haunted", x.truth(1, 3), 2);
        due.is("repair(0, 1)", x.repair(0, 1), 1);
        due.is("0 knows the newer one", x.known(0, 1, 1), 11);
        due.is("0 was haunted before", x.count(4), 0);
        x.set(2, 1);
        x.delete(3, 1);
        x.write(3, 1, 12);
        x.delete(2, 1);
        due.is("a newer value", x.repair(3, 0), 1);
        due.is("it was haunted too", x.count(4), 0);
        KeyGraves y = new KeyGraves();
        y.set(0, 1);
        y.delete(0, 2);
        y.write(1, 2, 20);
        y.delete(2, 2);
        due.is("an older grave at 0", y.known(0, 2, 0), 2);
        due.is("repair(1, 0)", y.repair(1, 0), 1);
        due.is("the value came back in place of a grave", y.count(4), 1);
        due.is("at 0", y.event(0, 2), 0);
    }

    private static void clearErrors() {
        KeyGraves x = new KeyGraves();
        due.is("clear(-1)", x.clear(-1), -1);
        due.is("clear(4)", x.clear(4), -1);
        due.is("clear(0)", x.clear(0), -5);
        x.setUp(0, false);
        due.is("clear(0) of a node that is down", x.clear(0), -4);
        due.is("no act", x.count(11), 1);
        due.is("no event", x.count(5), 0);
    }

    private static void clearingByAge() {
        KeyGraves x = new KeyGraves();
        x.set(2, 5);
        x.write(0, 0, 1);
        x.delete(0, 1);
        x.pass(1);
        x.delete(0, 2);
        x.pass(3);
        due.is("no grave is ripe", x.clear(0), -5);
        due.is("no event", x.count(5), 0);
        x.pass(1);
        due.is("one is ripe", x.node(0, 3), 1);
        due.is("clear(0)", x.clear(0), 1);
        due.is("it knows nothing", x.known(0, 1, 0), 0);
        due.is("the other stays", x.known(0, 2, 0), 2);
        due.is("the value stays", x.known(0, 0, 1), 1);
        due.is("node 1 still knows it", x.known(1, 1, 0), 2);
        due.is("an event", x.event(0, 0), 3);
        due.is("its tick", x.event(0, 1), 5);
        due.is("its node", x.event(0, 2), 0);
        due.is("its graves", x.event(0, 3), 1);
        x.pass(1);
        due.is("clear(1) of two", x.clear(1), 2);
        due.is("two graves", x.event(0, 3), 2);
        due.is("two clearings", x.count(5), 2);
        x.undo();
        due.is("they are back", x.node(1, 2), 2);
        due.is("one clearing", x.count(5), 1);
    }

    private static void clearingByRepairs() {
        KeyGraves x = new KeyGraves();
        x.set(3, 1);
        x.set(2, 2);
        x.set(0, 4);
        x.delete(1, 7);
        x.repair(1, 0);
        x.repair(1, 2);
        x.repair(1, 3);
        x.pass(1);
        x.repair(1, 0);
        x.repair(2, 1);
        x.repair(1, 3);
        due.is("repaired, but not ripe", x.clear(1), -5);
        due.is("none that clear() would clear", x.node(1, 4), 0);
        x.pass(1);
        due.is("ripe", x.node(1, 4), 1);
        due.is("ripe, but 0 had one repair", x.node(0, 4), 0);
        due.is("though it is ripe", x.node(0, 3), 1);
        due.is("clear(0)", x.clear(0), -5);
        due.is("clear(1)", x.clear(1), 1);
        KeyGraves y = new KeyGraves();
        y.set(3, 1);
        y.set(2, 1);
        y.set(0, 4);
        y.delete(0, 0);
        y.repair(0, 1);
        y.repair(0, 2);
        y.repair(0, 3);
        y.pass(1);
        due.is("repairs in the same tick are not later", y.node(0, 4), 0);
        y.repair(0, 1);
        y.repair(0, 2);
        y.setUp(3, false);
        due.is("the node that is down counts", y.clear(0), -5);
        y.setUp(3, true);
        y.repair(3, 0);
        y.setUp(0, false);
        due.is("told of a node that is down", y.node(0, 4), 1);
        due.is("but not possible", y.clear(0), -4);
    }

    private static void clearingByRepairsLooksAtWhenItWasLearned() {
        KeyGraves x = new KeyGraves();
        x.set(3, 1);
        x.set(2, 1);
        x.set(0, 1);
        x.delete(0, 0);
        x.pass(1);
        x.repair(1, 2);
        x.repair(1, 3);
        x.repair(1, 0);
        due.is("1 learned it in tick 1", x.known(1, 0, 6), 1);
        due.is("with the tick 0", x.known(1, 0, 3), 0);
        due.is("it is ripe", x.known(1, 0, 4), 1);
        due.is("later than 0, but not than 1", x.node(1, 4), 0);
        x.pass(1);
        x.repair(1, 2);
        x.repair(1, 3);
        due.is("not with 0", x.clear(1), -5);
        x.repair(0, 1);
        due.is("clear(1)", x.clear(1), 1);
    }

    private static void planErrors() {
        KeyGraves x = new KeyGraves();
        due.is("plan(-1, 0, 0)", x.plan(-1, 0, 0), -1);
        due.is("plan(4, 0, 0)", x.plan(4, 0, 0), -1);
        due.is("plan(0, -1, 0)", x.plan(0, -1, 0), -1);
        due.is("plan(0, 4, 0)", x.plan(0, 4, 0), -1);
        due.is("plan(4, 4, -1)", x.plan(4, 4, -1), -1);
        due.is("plan(0, 1, -1)", x.plan(0, 1, -1), -2);
        due.is("plan(0, 1, 10000)", x.plan(0, 1, 10000), -2);
        due.is("plan(2, 2, 5)", x.plan(2, 2, 5), -2);
        due.is("no act", x.count(11), 0);
        x.setUp(3, false);
        for (int i = 1; i <= 10; i++) {
            due.is("plan number " + i, x.plan(3, 0, i == 1 ? 0 : 9999), i);
        }
        due.is("the first one", x.planned(0, 2), 0);
        due.is("the last one", x.planned(9, 2), 9999);
        due.is("as told", x.planned(9, 0) * 10 + x.planned(9, 1), 30);
        due.is("plan number 11", x.plan(0, 1, 5), -3);
        due.is("BAD_VALUE ahead of FULL", x.plan(1, 1, 5), -2);
        due.is("UNKNOWN ahead of FULL", x.plan(1, 4, 5), -1);
        due.is("still ten", x.count(8), 10);
        due.is("undo()", x.undo(), 3);
        due.is("nine", x.count(8), 9);
        due.is("the tenth is gone", x.planned(9, 0), -5);
    }

    private static void passErrors() {
        KeyGraves x = new KeyGraves();
        due.is("pass(0)", x.pass(0), -2);
        due.is("pass(-1)", x.pass(-1), -2);
        due.is("pass(100)", x.pass(100), -2);
        due.is("pass(the least int)", x.pass(Integer.MIN_VALUE), -2);
        due.is("pass(the greatest int)", x.pass(Integer.MAX_VALUE), -2);
        due.is("no act", x.count(11), 0);
        due.is("no tick", x.count(0), 0);
        due.is("pass(1)", x.pass(1), 0);
        due.is("pass(99)", x.pass(99), 0);
        due.is("ticks", x.count(0), 100);
        due.is("acts", x.count(11), 2);
        due.is("undo()", x.undo(), 1);
        due.is("tick 1", x.count(0), 1);
    }

    private static void plannedRepairs() {
        KeyGraves x = new KeyGraves();
        x.plan(1, 0, 0);
        x.plan(3, 2, 2);
        x.plan(0, 1, 1);
        x.plan(2, 0, 2);
        x.plan(1, 0, 2);
        x.setUp(0, false);
        due.is("pass(1): 0 is down", x.pass(1), 0);
        due.is("missed", x.event(0, 0), 1);
        due.is("in tick 1", x.event(0, 1), 1);
        due.is("of node 0", x.event(0, 2), 0);
        due.is("and node 1", x.event(0, 3), 1);
        due.is("one missed", x.count(3), 1);
        due.is("a missed one is no repair", x.pair(0, 1, 0), -5);
        x.setUp(0, true);
        x.write(0, 4, 44);
        due.is("pass(5)", x.pass(5), 3);
        due.is("in their order", x.event(2, 2) * 10 + x.event(2, 3), 23);
        due.is("the next", x.event(1, 2) * 10 + x.event(1, 3), 2);
        due.is("the last", x.event(0, 2) * 10 + x.event(0, 3), 1);
        due.is("in tick 2", x.event(0, 1), 2);
        due.is("the tick of the repair", x.pair(2, 3, 0), 2);
        due.is("known by 2", x.known(2, 4, 1), 44);
        due.is("learned in tick 2", x.known(2, 4, 6), 2);
        due.is("not known by 3, which was ahead", x.known(3, 4, 0), 0);
        due.is("they stay in the plan", x.count(8), 5);
        due.is("the tick", x.count(0), 6);
        due.is("three repairs", x.count(2), 3);
        x.undo();
        due.is("all of it is undone", x.count(2) + x.count(0), 1);
        due.is("again", x.pass(99), 3);
        due.is("tick 0 never passes", x.pair(0, 1, 0), 2);
    }
}
