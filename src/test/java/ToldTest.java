/** Promises 17 (known) to 25 (count). */
public final class ToldTest {
    private static final Due due = new Due();

    public static void main(String[] args) {
        wrongInputs();
        knownFacts();
        truths();
        nodes();
        onlyTheLastKeyOrTheFirst();
        pairs();
        slowestPairs();
        gracesNeeded();
        settledGraves();
        events();
        plans();
        counts();
        due.end();
    }

    private static void wrongInputs() {
        KeyGraves x = new KeyGraves();
        for (int wrong : new int[] {-1, 8, Integer.MIN_VALUE, Integer.MAX_VALUE}) {
            due.is("known: node", x.known(wrong, 0, 0), -1);
            due.is("known: key", x.known(0, wrong, 0), -1);
            due.is("known: key ahead of what", x.known(0, wrong, 7), -1);
            due.is("known: what", x.known(0, 0, wrong), -2);
            due.is("truth: key", x.truth(wrong, 0), -1);
            due.is("truth: key ahead of what", x.truth(wrong, 5), -1);
            due.is("truth: what", x.truth(0, wrong), -2);
            due.is("node: node", x.node(wrong, 0), -1);
            due.is("node: node ahead of what", x.node(wrong, 6), -1);
            due.is("node: what", x.node(0, wrong), -2);
            due.is("pair: one", x.pair(wrong, 0, 0), -1);
            due.is("pair: other", x.pair(0, wrong, 0), -1);
            due.is("pair: node ahead of what", x.pair(0, wrong, 2), -1);
            due.is("pair: what", x.pair(0, 1, wrong), -2);
            due.is("event: what", x.event(0, wrong), -2);
            due.is("event: far back", x.event(Integer.MAX_VALUE, 0), -5);
            due.is("event: what ahead of NONE", x.event(Integer.MAX_VALUE, wrong), -2);
            due.is("planned: what", x.planned(0, wrong), -2);
            due.is("planned: far place", x.planned(Integer.MAX_VALUE, 0), -5);
        }
        due.is("known(4, 0, 0)", x.known(4, 0, 0), -1);
        due.is("known(0, 0, 7)", x.known(0, 0, 7), -2);
        due.is("truth(0, 5)", x.truth(0, 5), -2);
        due.is("node(4, 0)", x.node(4, 0), -1);
        due.is("node(0, 6)", x.node(0, 6), -2);
        due.is("pair(4, 4, 0)", x.pair(4, 4, 0), -1);
        due.is("pair(0, 0, 0)", x.pair(0, 0, 0), -2);
        due.is("pair(0, 1, 2)", x.pair(0, 1, 2), -2);
        due.is("event(-1, 0)", x.event(-1, 0), -2);
        due.is("event(0, 4)", x.event(0, 4), -2);
        due.is("planned(-1, 0)", x.planned(-1, 0), -2);
        due.is("planned(0, 3)", x.planned(0, 3), -2);
        due.is("count(-1)", x.count(-1), -2);
        due.is("count(13)", x.count(13), -2);
        due.is("count(the least int)", x.count(Integer.MIN_VALUE), -2);
    }

    private static void known(KeyGraves x, int node, int key, int... wanted) {
        for (int what = 0; what <= 6; what++) {
            String call = "known(" + node + ", " + key + ", " + what + ")";
            due.is(call, x.known(node, key, what), wanted[what]);
        }
    }

    private static void knownFacts() {
        KeyGraves x = new KeyGraves();
        x.set(2, 3);
        x.pass(4);
        x.write(0, 1, 0);
        known(x, 0, 1, 1, 0, 1, 4, 0, 0, 4);
        known(x, 2, 1, 0, -5, -5, -5, 0, 0, -5);
        x.pass(1);
        x.delete(1, 1);
        known(x, 1, 1, 2, -5, 2, 5, 0, 0, 5);
        known(x, 0, 1, 1, 0, 1, 4, 0, 1, 4);
        x.pass(2);
        known(x, 1, 1, 2, -5, 2, 5, 0, 0, 5);
        x.repair(0, 2);
        known(x, 0, 1, 2, -5, 2, 5, 0, 0, 7);
        x.pass(1);
        known(x, 0, 1, 2, -5, 2, 5, 1, 0, 7);
        x.set(2, 4);
        known(x, 0, 1, 2, -5, 2, 5, 0, 0, 7);
        x.pass(1);
        x.clear(0);
        known(x, 0, 1, 0, -5, -5, -5, 0, 0, -5);
    }

    private static void truth(KeyGraves x, int key, int... wanted) {
        for (int what = 0; what <= 4; what++) {
            String call = "truth(" + key + ", " + what + ")";
            due.is(call, x.truth(key, what), wanted[what]);
        }
    }

    private static void truths() {
        KeyGraves x = new KeyGraves();
        x.set(0, 3);
        x.set(2, 1);
        truth(x, 7, 0, -5, 4, 0, 0);
        x.write(2, 7, 70);
        truth(x, 7, 1, 70, 3, 0, 0);
        x.delete(3, 7);
        truth(x, 7, 2, -5, 3, 1, 0);
        x.repair(2, 3);
        truth(x, 7, 2, -5, 4, 0, 1);
        x.pass(1);
        x.clear(0);
        truth(x, 7, 2, -5, 3, 0, 0);
        x.clear(1);
        x.clear(2);
        x.clear(3);
        truth(x, 7, 2, -5, 0, 0, 0);
        x.write(0, 7, 71);
        truth(x, 7, 1, 71, 3, 0, 0);
        truth(x, 6, 0, -5, 4, 0, 0);
    }

    private static void node(KeyGraves x, int node, int... wanted) {
        for (int what = 0; what <= 5; what++) {
            String call = "node(" + node + ", " + what + ")";
            due.is(call, x.node(node, what), wanted[what]);
        }
    }

    private static void nodes() {
        KeyGraves x = new KeyGraves();
        x.set(2, 2);
        x.write(0, 0, 1);
        x.write(0, 1, 1);
        x.write(0, 2, 1);
        x.delete(1, 1);
        x.pass(1);
        x.delete(1, 3);
        x.pass(1);
        node(x, 0, 1, 3, 0, 0, 0, 1);
        node(x, 1, 1, 2, 2, 1, 1, 0);
        node(x, 2, 1, 0, 2, 1, 1, 0);
        node(x, 3, 1, 0, 0, 0, 0, 0);
        x.setUp(1, false);
        node(x, 1, 0, 2, 2, 1, 1, 0);
        x.pass(1);
        node(x, 1, 0, 2, 2, 2, 2, 0);
        x.set(3, 1);
        node(x, 1, 0, 2, 2, 2, 0, 0);
        due.is("two graves of each of two nodes", x.count(6), 4);
    }

    private static void onlyTheLastKeyOrTheFirst() {
        for (int key = 0; key <= 7; key += 7) {
            KeyGraves x = new KeyGraves();
            x.set(0, 2);
            x.set(2, 1);
            x.write(1, key, 5);
            x.set(0, 1);
            x.delete(1, key);
            x.pass(1);
            node(x, 0, 1, 0, 0, 0, 0, 0);
            node(x, 1, 1, 0, 1, 1, 1, 0);
            node(x, 2, 1, 1, 0, 0, 0, 1);
            node(x, 3, 1, 0, 0, 0, 0, 0);
            due.is("0 and 1", x.pair(0, 1, 1), 1);
            due.is("0 and 3", x.pair(0, 3, 1), 0);
            due.is("1 and 2", x.pair(1, 2, 1), 1);
            due.is("clear(0)", x.clear(0), -5);
            due.is("clear(2)", x.clear(2), -5);
            due.is("haunting keys", x.count(7), 1);
            due.is("graves", x.count(6), 1);
            due.is("not settled", x.count(10), 1);
            due.is("the grace", x.graceNeeded(), 2);
            due.is("repair(3, 2)", x.repair(3, 2), 1);
            due.is("it came back at 3", x.event(0, 2) * 10 + x.event(0, 3), 30 + key);
            KeyGraves y = new KeyGraves();
            y.set(0, 1);
            y.set(2, 1);
            y.delete(0, key);
            y.pass(3);
            due.is("only node 0 knows a grave", y.graceNeeded(), 4);
            due.is("clear(3)", y.clear(3), -5);
            due.is("clear(0)", y.clear(0), 1);
        }
    }

    private static void pairs() {
        KeyGraves x = new KeyGraves();
        x.set(0, 1);
        x.write(0, 0, 1);
        x.write(1, 0, 1);
        x.delete(1, 1);
        x.set(0, 2);
        x.write(0, 2, 1);
        due.is("the same value with another stamp", x.pair(0, 1, 1), 2);
        due.is("the other way round", x.pair(1, 0, 1), 2);
        due.is("with a node that knows nothing", x.pair(1, 3, 1), 3);
        due.is("of two that know nothing", x.pair(3, 2, 1), 0);
        x.setUp(3, false);
        due.is("with one that is down", x.pair(3, 1, 1), 3);
        x.pass(5);
        x.repair(2, 1);
        due.is("its tick", x.pair(1, 2, 0), 5);
        due.is("the other way round", x.pair(2, 1, 0), 5);
        due.is("none of another pair", x.pair(1, 0, 0), -5);
    }

    private static void slowestPairs() {
        KeyGraves x = new KeyGraves();
        int[][] pairs = {{0, 1}, {0, 2}, {0, 3}, {1, 2}, {1, 3}, {2, 3}};
        for (int i = 0; i < 6; i++) {
            int one = pairs[i][0];
            int other = pairs[i][1];
            due.is("never repaired", x.slowest(), 4 * one + other);
            if (i == 3) {
                x.pass(1);
            }
            x.repair(other, one);
        }
        due.is("in tick 0, the lowest", x.slowest(), 1);
        x.repair(1, 0);
        due.is("then", x.slowest(), 2);
        x.pass(1);
        x.repair(3, 0);
        x.repair(2, 0);
        due.is("in tick 1, the lowest", x.slowest(), 1);
        x.repair(0, 1);
        due.is("then 1 and 2", x.slowest(), 6);
        x.repair(1, 2);
        due.is("then 1 and 3", x.slowest(), 7);
        x.repair(1, 3);
        due.is("then 2 and 3", x.slowest(), 11);
    }

    private static void gracesNeeded() {
        KeyGraves x = new KeyGraves();
        x.write(0, 0, 1);
        due.is("no grave", x.graceNeeded(), 1);
        x.delete(0, 0);
        due.is("not settled, in the same tick", x.graceNeeded(), 1);
        x.pass(1);
        due.is("one tick later", x.graceNeeded(), 2);
        x.set(2, 1);
        due.is("it is ripe with 1", x.known(0, 0, 4), 1);
        x.set(2, 2);
        due.is("not with 2", x.known(0, 0, 4), 0);
        x.pass(9);
        x.delete(2, 1);
        due.is("the older one", x.graceNeeded(), 11);
        x.setUp(0, false);
        x.setUp(1, false);
        due.is("though all that know it are down", x.graceNeeded(), 11);
        x.setUp(0, true);
        x.setUp(1, true);
        x.repair(0, 2);
        x.repair(1, 3);
        due.is("all are settled", x.graceNeeded(), 11 - 10);
        x.clear(3);
        due.is("not settled once it is cleared", x.graceNeeded(), 11);
        x.pass(99);
        x.pass(99);
        x.pass(99);
        x.pass(99);
        x.pass(99);
        due.is("above 500", x.graceNeeded(), 506);
    }

    private static void settledGraves() {
        KeyGraves x = new KeyGraves();
        x.set(0, 1);
        x.delete(0, 3);
        due.is("one, not settled", x.count(10), 1);
        x.delete(1, 3);
        due.is("two of one key", x.count(10), 2);
        due.is("two graves", x.count(6), 2);
        x.set(0, 3);
        x.write(1, 3, 7);
        due.is("something newer at the others", x.count(10), 0);
        due.is("of which one is a grave", x.count(6), 1);
        due.is("which needs no grace", x.graceNeeded(), 1);
        x.set(0, 4);
        x.delete(0, 3);
        due.is("all know it", x.count(10), 0);
        due.is("settled", x.truth(3, 4), 1);
        x.set(2, 1);
        x.pass(1);
        x.clear(2);
        due.is("three know it, one thing", x.count(10), 1);
        due.is("each counts here", x.count(6), 3);
        x.clear(0);
        x.clear(1);
        x.clear(3);
        due.is("no node knows a grave", x.count(10), 0);
        due.is("and none is needed", x.graceNeeded(), 1);
    }

    private static void events() {
        KeyGraves x = new KeyGraves();
        for (int i = 1; i <= 12; i++) {
            x.pass(1);
            x.repair(i % 4, (i + 1) % 4);
        }
        for (int back = 0; back < 10; back++) {
            due.is("event(" + back + ", 0)", x.event(back, 0), 0);
            due.is("event(" + back + ", 1)", x.event(back, 1), 12 - back);
            int one = (12 - back) % 4;
            int other = (13 - back) % 4;
            due.is("event(" + back + ", 2)", x.event(back, 2), Math.min(one, other));
            due.is("event(" + back + ", 3)", x.event(back, 3), Math.max(one, other));
        }
        due.is("event(10, 0)", x.event(10, 0), -5);
        due.is("all of them count", x.count(2), 12);
        x.undo();
        due.is("event(0, 1) of before", x.event(0, 1), 11);
        due.is("the dropped one is back", x.event(9, 1), 2);
        due.is("event(9, 0)", x.event(9, 0), 0);
        due.is("eleven count", x.count(2), 11);
    }

    private static void plans() {
        KeyGraves x = new KeyGraves();
        x.plan(3, 1, 17);
        due.is("planned(0, 0)", x.planned(0, 0), 3);
        due.is("planned(0, 1)", x.planned(0, 1), 1);
        due.is("planned(0, 2)", x.planned(0, 2), 17);
        due.is("planned(1, 0)", x.planned(1, 0), -5);
        due.is("BAD_VALUE goes ahead", x.planned(1, 3), -2);
    }

    private static void counts() {
        KeyGraves x = new KeyGraves();
        x.set(2, 1);
        x.set(0, 4);
        x.plan(0, 1, 3);
        x.plan(1, 3, 3);
        x.write(0, 0, 1);
        x.setUp(3, false);
        x.delete(1, 0);
        x.pass(3);
        x.clear(2);
        x.type('x');
        x.setUp(3, true);
        x.repair(2, 3);
        int[] wanted = {3, 2, 2, 1, 1, 1, 2, 1, 2, 4, 1, 4, 1};
        for (int what = 0; what < wanted.length; what++) {
            due.is("count(" + what + ")", x.count(what), wanted[what]);
        }
    }
}
