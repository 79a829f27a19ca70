/** Promises 4 (write), 5 (delete) and 6 (read). */
public final class WritesTest {
    private static final Due due = new Due();

    public static void main(String[] args) {
        writeErrors();
        deleteErrors();
        readErrors();
        reachGoesRound();
        reachLeavesOutDownNodes();
        deletions();
        readsTellTheNewest();
        readsMend();
        readsThatDoNotMend();
        comingBackByReads();
        due.end();
    }

    private static void writeErrors() {
        KeyGraves x = new KeyGraves();
        x.setUp(3, false);
        due.is("write(-1, 0, 0)", x.write(-1, 0, 0), -1);
        due.is("write(4, 0, 0)", x.write(4, 0, 0), -1);
        due.is("write(0, -1, 0)", x.write(0, -1, 0), -1);
        due.is("write(0, 8, 0)", x.write(0, 8, 0), -1);
        due.is("UNKNOWN ahead of BAD_VALUE", x.write(0, 8, 100), -1);
        due.is("UNKNOWN ahead of NOT_POSSIBLE", x.write(3, 8, 1), -1);
        due.is("write(0, 0, -1)", x.write(0, 0, -1), -2);
        due.is("write(0, 0, 100)", x.write(0, 0, 100), -2);
        due.is("BAD_VALUE ahead of NOT_POSSIBLE", x.write(3, 0, 100), -2);
        due.is("write(3, 0, 1)", x.write(3, 0, 1), -4);
        due.is("no stamp was given", x.count(1), 0);
        due.is("no act", x.count(11), 1);
        due.is("write(0, 0, 0)", x.write(0, 0, 0), 2);
        due.is("write(0, 7, 99)", x.write(0, 7, 99), 2);
        due.is("known(0, 0, 1)", x.known(0, 0, 1), 0);
        due.is("known(0, 7, 1)", x.known(0, 7, 1), 99);
        due.is("stamps", x.count(1), 2);
        due.is("acts", x.count(11), 3);
    }

    private static void deleteErrors() {
        KeyGraves x = new KeyGraves();
        x.setUp(3, false);
        due.is("delete(-1, 0)", x.delete(-1, 0), -1);
        due.is("delete(4, 0)", x.delete(4, 0), -1);
        due.is("delete(0, -1)", x.delete(0, -1), -1);
        due.is("delete(0, 8)", x.delete(0, 8), -1);
        due.is("delete(3, 8)", x.delete(3, 8), -1);
        due.is("delete(3, 0)", x.delete(3, 0), -4);
        due.is("no stamp was given", x.count(1), 0);
        due.is("no act", x.count(11), 1);
        due.is("delete(0, 0) of nothing", x.delete(0, 0), 2);
        due.is("a grave", x.known(0, 0, 0), 2);
        due.is("a stamp", x.count(1), 1);
        due.is("an act", x.count(11), 2);
    }

    private static void readErrors() {
        KeyGraves x = new KeyGraves();
        x.setUp(3, false);
        due.is("read(-1, 0)", x.read(-1, 0), -1);
        due.is("read(4, 0)", x.read(4, 0), -1);
        due.is("read(0, -1)", x.read(0, -1), -1);
        due.is("read(0, 8)", x.read(0, 8), -1);
        due.is("read(3, 8)", x.read(3, 8), -1);
        due.is("read(3, 0)", x.read(3, 0), -4);
        due.is("read(0, 0)", x.read(0, 0), -5);
        due.is("no act", x.count(11), 1);
    }

    private static void reachGoesRound() {
        for (int reach = 1; reach <= 4; reach++) {
            for (int from = 0; from < 4; from++) {
                KeyGraves x = new KeyGraves();
                x.set(0, reach);
                String of = " with reach " + reach + " from " + from;
                due.is("write" + of, x.write(from, 5, 42), reach);
                for (int step = 0; step < 4; step++) {
                    int node = (from + step) % 4;
                    due.is("node " + node + of, x.known(node, 5, 0), step < reach ? 1 : 0);
                    due.is("value at " + node + of, x.known(node, 5, 1), step < reach ? 42 : -5);
                    due.is("another key" + of, x.known(node, 4, 0), 0);
                }
            }
        }
    }

    private static void reachLeavesOutDownNodes() {
        KeyGraves x = new KeyGraves();
        x.set(0, 3);
        x.setUp(0, false);
        due.is("write(2, 1, 9)", x.write(2, 1, 9), 3);
        due.is("node 0 is down", x.known(0, 1, 0), 0);
        due.is("node 1 is reached", x.known(1, 1, 1), 9);
        due.is("node 2 is reached", x.known(2, 1, 1), 9);
        due.is("node 3 is reached", x.known(3, 1, 1), 9);
        x.setUp(3, false);
        due.is("fewer are up than the reach", x.delete(2, 1), 2);
        due.is("node 3 still knows the value", x.known(3, 1, 0), 1);
        due.is("node 1 knows the grave", x.known(1, 1, 0), 2);
    }

    private static void deletions() {
        KeyGraves x = new KeyGraves();
        x.set(0, 4);
        x.write(1, 6, 13);
        x.pass(7);
        x.set(0, 2);
        due.is("delete(3, 6)", x.delete(3, 6), 2);
        due.is("stamp at 3", x.known(3, 6, 2), 2);
        due.is("tick at 3", x.known(3, 6, 3), 7);
        due.is("learned at 3", x.known(3, 6, 6), 7);
        due.is("no value at 0", x.known(0, 6, 1), -5);
        due.is("the stamp that was at 1", x.known(1, 6, 2), 1);
        due.is("the tick that was at 2", x.known(2, 6, 3), 0);
        due.is("1 is haunted", x.known(1, 6, 5), 1);
        due.is("a deletion lets nothing come back", x.count(4), 0);
        due.is("writing again", x.write(0, 6, 14), 2);
        due.is("nothing is haunted", x.count(7), 0);
        due.is("node 3 still knows the grave", x.known(3, 6, 0), 2);
    }

    private static void readsTellTheNewest() {
        KeyGraves x = new KeyGraves();
        x.set(4, 0);
        x.set(0, 1);
        x.write(1, 0, 10);
        x.write(2, 0, 20);
        due.is("read(0, 0) reaches 0 and 1", x.read(0, 0), 10);
        due.is("read(1, 0) reaches 1 and 2", x.read(1, 0), 20);
        due.is("read(3, 0) reaches 3 and 0", x.read(3, 0), -5);
        x.set(1, 3);
        due.is("read(0, 0) reaches 0 to 2", x.read(0, 0), 20);
        due.is("read(3, 0) reaches 3, 0 and 1", x.read(3, 0), 10);
        x.set(1, 1);
        due.is("read(0, 0) reaches 0", x.read(0, 0), -5);
        x.setUp(1, false);
        x.set(1, 2);
        due.is("read(0, 0) reaches 0 and 2", x.read(0, 0), 20);
        x.delete(2, 0);
        due.is("a grave", x.read(0, 0), -5);
        due.is("nothing is mended", x.known(0, 0, 0), 0);
    }

    private static void readsMend() {
        KeyGraves x = new KeyGraves();
        x.set(0, 1);
        x.write(1, 3, 31);
        x.pass(5);
        int acts = x.count(11);
        due.is("three acts", acts, 3);
        due.is("read(0, 3)", x.read(0, 3), 31);
        due.is("an act", x.count(11), 4);
        due.is("value at 0", x.known(0, 3, 1), 31);
        due.is("stamp at 0", x.known(0, 3, 2), 1);
        due.is("tick at 0", x.known(0, 3, 3), 0);
        due.is("learned at 0", x.known(0, 3, 6), 5);
        due.is("learned at 1 as before", x.known(1, 3, 6), 0);
        due.is("2 was not reached", x.known(2, 3, 0), 0);
        due.is("no stamp was given", x.count(1), 1);
        due.is("no event", x.event(0, 0), -5);
        due.is("undo()", x.undo(), 3);
        due.is("nothing at 0", x.known(0, 3, 0), 0);
        due.is("read(0, 3) again", x.read(0, 3), 31);
        due.is("undo() twice", x.undo() + x.undo(), 3 + 2);
        due.is("the tick before pass", x.count(0), 0);
        x.delete(1, 3);
        x.keep();
        x.undo();
        x.restore();
        due.is("read(0, 3) of a grave", x.read(0, 3), -5);
        due.is("a mended grave", x.known(0, 3, 0), 2);
        due.is("an act with NONE", x.count(11), 4);
        x.undo();
        due.is("nothing before", x.known(0, 3, 0), 0);
    }

    private static void readsThatDoNotMend() {
        KeyGraves x = new KeyGraves();
        x.write(0, 2, 8);
        due.is("all reached know it", x.read(0, 2), 8);
        due.is("no act", x.count(11), 1);
        x.pass(1);
        due.is("read again", x.read(0, 2), 8);
        due.is("learned as before", x.known(1, 2, 6), 0);
        x.set(4, 0);
        due.is("reads do not mend", x.read(3, 2), 8);
        due.is("3 knows nothing", x.known(3, 2, 0), 0);
        due.is("no act then", x.count(11), 3);
        x.set(4, 1);
        due.is("nothing is read at 2 and 3", x.read(2, 2), -5);
        due.is("no act of nothing", x.count(11), 4);
    }

    private static void comingBackByReads() {
        KeyGraves x = new KeyGraves();
        x.set(0, 4);
        x.set(1, 4);
        x.set(2, 1);
        x.write(0, 4, 55);
        x.setUp(2, false);
        x.delete(0, 4);
        x.pass(3);
        x.clear(0);
        x.clear(3);
        x.setUp(2, true);
        x.setUp(1, false);
        due.is("read(1, 4)", x.read(1, 4), -4);
        due.is("read(3, 4)", x.read(3, 4), 55);
        due.is("two came back", x.count(4), 2);
        due.is("the latest at 0, reached behind 3", x.event(0, 2), 0);
        due.is("its key", x.event(0, 3), 4);
        due.is("its kind", x.event(0, 0), 2);
        due.is("its tick", x.event(0, 1), 3);
        due.is("the one before at 3", x.event(1, 2), 3);
        due.is("2 was haunted before", x.truth(4, 3), 3);
        due.is("the grave is at 1", x.known(1, 4, 0), 2);
        x.setUp(1, true);
        due.is("the grave is newer", x.read(2, 4), -5);
        due.is("nobody is haunted", x.truth(4, 3), 0);
        due.is("no more came back", x.count(4), 2);
    }
}
