/** Long runs of calls, each answered by the program and by the model of the document. */
public final class ModelTest {
    private static final int RUNS = 4000;
    private static final int ACTS_AHEAD_OF_ALL = 115;

    private static final String[] TEXTS = {
        "0-1@", "1-2@", "3-0@", "2-3@", "0-0@", ",", "5", "10", "0", "00", "123", "9999", "1", "-", "@",
        "4", "x", "3-1@7,", "0-2@20", ",1-3@",
    };

    private final StringBuilder calls = new StringBuilder();
    private final KeyGraves x = new KeyGraves();
    private final Model m = new Model();
    private long seed;
    private int done = 0;

    private ModelTest(long seed) {
        this.seed = seed * 7919 + 17;
    }

    public static void main(String[] args) {
        for (int run = 0; run < RUNS; run++) {
            new ModelTest(run).run(run);
        }
        System.out.println(RUNS + " runs as the model has them");
    }

    private int below(int bound) {
        seed = seed * 6364136223846793005L + 1442695040888963407L;
        return (int) Math.floorMod(seed >>> 33, (long) bound);
    }

    /** A number of the range, and now and then one beside it. */
    private int near(int least, int greatest) {
        int edge = below(60);
        if (edge == 0) {
            return least - 1;
        }
        return edge == 1 ? greatest + 1 : least + below(greatest - least + 1);
    }

    private void call(String call, int got, int want) {
        done++;
        if (done > Telling.MOST_CALLS) {
            throw new IllegalStateException("more calls than the document promises");
        }
        calls.append(call).append(" = ").append(got).append('\n');
        if (got != want) {
            System.out.println(calls);
            System.out.println(call + " answered " + got + ", the model " + want);
            System.exit(1);
        }
    }

    /** Half of the runs are asked something between the acts, the others all at their end. */
    private void run(int run) {
        // Few keys and short graces let graves be cleared and deleted keys come back often.
        int keys = 1 + run % 8;
        int graces = run % 3 == 0 ? 500 : 6;
        boolean askedAll = run % 2 == 0;
        int acts = askedAll ? below(ACTS_AHEAD_OF_ALL) : Telling.MOST_CALLS;
        while (done < acts) {
            act(keys, graces, acts);
            if (!askedAll && done < acts) {
                ask();
            }
        }
        if (askedAll) {
            askAll();
        }
    }

    private void act(int keys, int graces, int acts) {
        int kind = below(100);
        if (kind < 45) {
            useKeys(keys);
        } else if (kind < 75) {
            useNodes();
        } else if (kind < 84) {
            useSettings(graces);
        } else if (kind < 92) {
            useTexts(acts);
        } else {
            useHistory();
        }
    }

    private void useKeys(int keys) {
        int node = near(0, 3);
        int key = near(0, keys - 1);
        int kind = below(9);
        if (kind < 2) {
            int value = near(0, 99);
            call("write(" + node + ", " + key + ", " + value + ")",
                x.write(node, key, value), m.write(node, key, value));
        } else if (kind < 5) {
            call("delete(" + node + ", " + key + ")", x.delete(node, key), m.delete(node, key));
        } else {
            call("read(" + node + ", " + key + ")", x.read(node, key), m.read(node, key));
        }
    }

    private void useNodes() {
        int one = near(0, 3);
        int other = near(0, 3);
        int kind = below(12);
        if (kind < 4) {
            call("repair(" + one + ", " + other + ")", x.repair(one, other), m.repair(one, other));
        } else if (kind < 7) {
            call("clear(" + one + ")", x.clear(one), m.clear(one));
        } else if (kind < 10) {
            int ticks = below(20) == 0 ? near(1, 99) : near(1, 5);
            call("pass(" + ticks + ")", x.pass(ticks), m.pass(ticks));
        } else if (kind < 11) {
            boolean up = below(3) > 0;
            call("setUp(" + one + ", " + up + ")", x.setUp(one, up), m.setUp(one, up));
        } else {
            int tick = below(5) == 0 ? near(0, 9999) : m.count(0) + below(8);
            call("plan(" + one + ", " + other + ", " + tick + ")",
                x.plan(one, other, tick), m.plan(one, other, tick));
        }
    }

    private void useSettings(int graces) {
        int which = near(0, 4);
        int greatest = which == 2 ? graces : which < 2 ? 4 : 1;
        int value = near(which > 2 ? 0 : 1, greatest);
        call("set(" + which + ", " + value + ")", x.set(which, value), m.set(which, value));
    }

    private void useTexts(int acts) {
        int kind = below(5);
        if (kind == 0) {
            call("clearText()", x.clearText(), m.clearText());
        } else if (kind < 3) {
            call("readPlan()", x.readPlan(), m.readPlan());
        } else {
            String piece = TEXTS[below(TEXTS.length)];
            for (int i = 0; i < piece.length() && done < acts; i++) {
                char sign = piece.charAt(i);
                call("type('" + sign + "')", x.type(sign), m.type(sign));
            }
        }
    }

    private void useHistory() {
        int kind = below(6);
        if (kind < 3) {
            call("undo()", x.undo(), m.undo());
        } else if (kind < 4) {
            call("keep()", x.keep(), m.keep());
        } else if (kind < 5) {
            call("restore()", x.restore(), m.restore());
        } else {
            call("readPlan()", x.readPlan(), m.readPlan());
        }
    }

    private void ask() {
        int node = near(0, 3);
        int key = near(0, 7);
        switch (below(18)) {
            case 0, 1, 2, 3 -> askCount(near(0, 12));
            case 4, 5, 6 -> askKnown(node, key, near(0, 6));
            case 7, 8 -> askTruth(key, near(0, 4));
            case 9, 10 -> askNode(node, near(0, 5));
            case 11 -> askPair(node, near(0, 3), near(0, 1));
            case 12, 13 -> askEvent(near(0, 10), near(0, 3));
            case 14 -> askPlanned(near(0, 10), near(0, 2));
            case 15 -> call("slowest()", x.slowest(), m.slowest());
            case 16 -> call("graceNeeded()", x.graceNeeded(), m.graceNeeded());
            default -> askSetting(near(0, 4));
        }
    }

    private void askAll() {
        for (int node = 0; node < 4; node++) {
            for (int what = 0; what <= 5; what++) {
                askNode(node, what);
            }
            for (int key = 0; key < 8; key++) {
                for (int what = 0; what <= 6; what++) {
                    askKnown(node, key, what);
                }
            }
            for (int other = 0; other < node; other++) {
                askPair(node, other, 0);
                askPair(node, other, 1);
            }
            askSetting(node);
        }
        for (int key = 0; key < 8; key++) {
            for (int what = 0; what <= 4; what++) {
                askTruth(key, what);
            }
        }
        for (int place = 0; place <= 10; place++) {
            for (int what = 0; what <= 3; what++) {
                askEvent(place, what);
            }
            for (int what = 0; what <= 2; what++) {
                askPlanned(place, what);
            }
        }
        for (int what = 0; what <= 12; what++) {
            askCount(what);
        }
        call("slowest()", x.slowest(), m.slowest());
        call("graceNeeded()", x.graceNeeded(), m.graceNeeded());
    }

    private void askKnown(int node, int key, int what) {
        call("known(" + node + ", " + key + ", " + what + ")",
            x.known(node, key, what), m.known(node, key, what));
    }

    private void askTruth(int key, int what) {
        call("truth(" + key + ", " + what + ")", x.truth(key, what), m.truth(key, what));
    }

    private void askNode(int node, int what) {
        call("node(" + node + ", " + what + ")", x.node(node, what), m.node(node, what));
    }

    private void askPair(int one, int other, int what) {
        call("pair(" + one + ", " + other + ", " + what + ")",
            x.pair(one, other, what), m.pair(one, other, what));
    }

    private void askEvent(int back, int what) {
        call("event(" + back + ", " + what + ")", x.event(back, what), m.event(back, what));
    }

    private void askPlanned(int place, int what) {
        call("planned(" + place + ", " + what + ")", x.planned(place, what), m.planned(place, what));
    }

    private void askCount(int what) {
        call("count(" + what + ")", x.count(what), m.count(what));
    }

    private void askSetting(int which) {
        call("setting(" + which + ")", x.setting(which), m.setting(which));
    }
}
