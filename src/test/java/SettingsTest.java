/** Promises 2 (set), 3 (setUp) and 26 (setting). */
public final class SettingsTest {
    private static final Due due = new Due();

    public static void main(String[] args) {
        ranges();
        wrongSettings();
        upAndDown();
        due.end();
    }

    private static void ranges() {
        int[] least = {1, 1, 1, 0, 0};
        int[] greatest = {4, 4, 500, 1, 1};
        int[] first = {2, 2, 50, 0, 1};
        for (int which = 0; which < 5; which++) {
            KeyGraves x = new KeyGraves();
            String of = " of setting " + which;
            due.is("the same" + of, x.set(which, first[which]), -5);
            due.is("no act" + of, x.count(11), 0);
            due.is("too small" + of, x.set(which, least[which] - 1), -2);
            due.is("too large" + of, x.set(which, greatest[which] + 1), -2);
            due.is("far too small" + of, x.set(which, Integer.MIN_VALUE), -2);
            due.is("far too large" + of, x.set(which, Integer.MAX_VALUE), -2);
            due.is("unchanged" + of, x.setting(which), first[which]);
            due.is("still no act" + of, x.count(11), 0);
            int edge = first[which] == least[which] ? greatest[which] : least[which];
            int opposite = edge == least[which] ? greatest[which] : least[which];
            due.is("an edge" + of, x.set(which, edge), first[which]);
            due.is("it is set" + of, x.setting(which), edge);
            due.is("an act" + of, x.count(11), 1);
            due.is("the other edge" + of, x.set(which, opposite), edge);
            due.is("it is set then" + of, x.setting(which), opposite);
            for (int other = 0; other < 5; other++) {
                if (other != which) {
                    due.is("another" + of, x.setting(other), first[other]);
                }
            }
        }
    }

    private static void wrongSettings() {
        KeyGraves x = new KeyGraves();
        for (int which : new int[] {-1, 5, Integer.MIN_VALUE, Integer.MAX_VALUE}) {
            due.is("set(" + which + ", 1)", x.set(which, 1), -1);
            due.is("UNKNOWN goes ahead", x.set(which, -1), -1);
            due.is("setting(" + which + ")", x.setting(which), -1);
        }
        due.is("nothing recorded", x.count(11), 0);
    }

    private static void upAndDown() {
        KeyGraves x = new KeyGraves();
        due.is("setUp(-1, true)", x.setUp(-1, true), -1);
        due.is("setUp(4, false)", x.setUp(4, false), -1);
        due.is("setUp(0, true)", x.setUp(0, true), -5);
        due.is("no act", x.count(11), 0);
        due.is("setUp(2, false)", x.setUp(2, false), 3);
        due.is("an act", x.count(11), 1);
        due.is("setUp(2, false) again", x.setUp(2, false), -5);
        due.is("no act then", x.count(11), 1);
        due.is("node(2, 0)", x.node(2, 0), 0);
        due.is("node(1, 0)", x.node(1, 0), 1);
        due.is("setUp(0, false)", x.setUp(0, false), 2);
        due.is("setUp(1, false)", x.setUp(1, false), 1);
        due.is("setUp(3, false)", x.setUp(3, false), 0);
        due.is("count(9)", x.count(9), 0);
        for (int node = 0; node < 4; node++) {
            due.is("no node writes", x.write(node, 0, 1), -4);
            due.is("no node reads", x.read(node, 0), -4);
        }
        due.is("setUp(3, true)", x.setUp(3, true), 1);
        due.is("node(3, 0)", x.node(3, 0), 1);
        due.is("count(9) then", x.count(9), 1);
    }
}
