/** Promises 14 (undo), 15 (keep) and 16 (restore), and which calls are acts. */
public final class HistoryTest {
    private static final Due due = new Due();

    public static void main(String[] args) {
        fourStates();
        allOfTheState();
        stepByStep();
        droppedEventsComeBack();
        snapshots();
        snapshotsAndHistory();
        due.end();
    }

    private static void fourStates() {
        KeyGraves x = new KeyGraves();
        due.is("undo() of nothing", x.undo(), -5);
        for (int i = 1; i <= 6; i++) {
            x.pass(i);
            due.is("states", x.count(11), Math.min(i, 4));
        }
        due.is("the tick", x.count(0), 21);
        due.is("undo() 1", x.undo(), 3);
        due.is("the tick then", x.count(0), 15);
        due.is("undo() 2", x.undo(), 2);
        due.is("undo() 3", x.undo(), 1);
        due.is("undo() 4", x.undo(), 0);
        due.is("the oldest that was kept", x.count(0), 3);
        due.is("undo() 5", x.undo(), -5);
        due.is("nothing changes", x.count(0), 3);
        x.pass(2);
        due.is("recorded again", x.count(11), 1);
        due.is("undo() 6", x.undo(), 0);
        due.is("back again", x.count(0), 3);
    }

    private static void allOfTheState() {
        KeyGraves x = new KeyGraves();
        x.set(0, 4);
        x.write(0, 0, 5);
        x.set(2, 1);
        x.plan(0, 1, 1);
        x.plan(2, 1, 1);
        int before = Told.hash(x);
        x.setUp(3, false);
        due.is("another state", Told.hash(x) == before ? 1 : 0, 0);
        x.delete(0, 0);
        x.pass(1);
        x.clear(1);
        due.is("undo()", x.undo(), 3);
        due.is("undo()", x.undo(), 2);
        due.is("the stamp that was given", x.count(1), 2);
        due.is("undo()", x.undo(), 1);
        due.is("stamps are given again", x.count(1), 1);
        due.is("undo()", x.undo(), 0);
        due.is("the same state", Told.hash(x) == before ? 1 : 0, 1);
        due.is("the stamp comes again", x.delete(3, 1), 4);
        due.is("as the second one", x.known(2, 1, 2), 2);
    }

    /** Acts of every kind, each of which lets the object tell something else. */
    private static void act(KeyGraves x, int number) {
        switch (number) {
            case 0 -> x.plan(3, 2, 1);
            case 1 -> x.write(0, 0, 11);
            case 2 -> x.pass(1);
            case 3 -> x.repair(0, 3);
            case 4 -> x.write(3, 0, 12);
            case 5 -> x.set(2, 1);
            case 6 -> x.delete(1, 0);
            case 7 -> x.pass(1);
            case 8 -> x.repair(0, 1);
            case 9 -> x.read(2, 0);
            case 10 -> x.setUp(0, false);
            case 11 -> x.clear(1);
            case 12 -> x.repair(1, 3);
            case 13 -> x.setUp(0, true);
            case 14 -> x.setUp(3, false);
            case 15 -> x.readPlan();
            case 16 -> x.pass(1);
            case 17 -> x.write(2, 7, 13);
            case 18 -> x.pass(3);
            case 19 -> x.write(2, 7, 14);
            case 20 -> x.read(1, 7);
            default -> x.restore();
        }
    }

    private static void stepByStep() {
        for (int last = 0; last <= 21; last++) {
            KeyGraves x = new KeyGraves();
            x.keep();
            Due.typeAll(x, "1-0@3,1-3@3,2-1@6");
            int[] hashes = new int[last + 1];
            for (int number = 0; number <= last; number++) {
                hashes[number] = Told.hash(x);
                act(x, number);
                String of = " of act " + number;
                due.is("a change" + of, Told.hash(x) == hashes[number] ? 1 : 0, 0);
                due.is("states" + of, x.count(11), Math.min(number + 1, 4));
            }
            for (int number = last; number >= Math.max(0, last - 3); number--) {
                x.undo();
                String of = " of act " + number + " of " + last;
                due.is("undo()" + of, Told.hash(x) == hashes[number] ? 1 : 0, 1);
            }
        }
    }

    private static void droppedEventsComeBack() {
        KeyGraves x = new KeyGraves();
        x.plan(3, 2, 1);
        x.setUp(2, false);
        x.pass(1);
        for (int i = 0; i < 9; i++) {
            x.repair(0, 1);
        }
        int before = Told.hash(x);
        due.is("the oldest that is known", x.event(9, 0) * 100 + x.event(9, 2) * 10
            + x.event(9, 3), 123);
        x.pass(1);
        x.repair(0, 3);
        due.is("it is dropped", x.event(9, 0) * 100 + x.event(9, 2) * 10 + x.event(9, 3), 1);
        x.undo();
        x.undo();
        due.is("it is back", x.event(9, 0) * 100 + x.event(9, 2) * 10 + x.event(9, 3), 123);
        due.is("as before", Told.hash(x) == before ? 1 : 0, 1);
    }

    private static void snapshots() {
        KeyGraves x = new KeyGraves();
        due.is("restore() of nothing", x.restore(), -5);
        due.is("no act", x.count(11), 0);
        x.pass(8);
        due.is("keep()", x.keep(), 8);
        due.is("keep() is no act", x.count(11), 1);
        int kept = Told.hash(x);
        x.pass(4);
        x.write(1, 1, 1);
        due.is("restore()", x.restore(), 8);
        due.is("restore() is an act", x.count(11), 4);
        due.is("as it was kept", Told.hash(x) == kept ? 1 : 0, 1);
        due.is("restore() again", x.restore(), 8);
        x.write(2, 2, 2);
        due.is("the snapshot stays as it was", x.restore(), 8);
        due.is("without the write", x.known(2, 2, 0), 0);
        x.pass(1);
        due.is("keep() in its place", x.keep(), 9);
        x.pass(1);
        due.is("the new one", x.restore(), 9);
    }

    private static void snapshotsAndHistory() {
        KeyGraves x = new KeyGraves();
        x.keep();
        x.pass(3);
        x.restore();
        due.is("undo() of restore()", x.undo(), 1);
        due.is("the tick before it", x.count(0), 3);
        x.undo();
        due.is("undo() leaves the snapshot", x.restore(), 0);
        x.set(2, 9);
        x.keep();
        x.undo();
        due.is("not undone", x.setting(2), 50);
        x.restore();
        due.is("settings are kept", x.setting(2), 9);
        x.undo();
        due.is("and undone", x.setting(2), 50);
    }
}
