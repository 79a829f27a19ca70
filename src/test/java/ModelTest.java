/** Long runs of calls, each answered by the program and by the model of the document. */
public final class ModelTest {
    private static final int RUNS = 400;
    private static final int CALLS = 512;

    private static final String[] TEXTS = {
        "0-1@", "1-2@", "3-0@", "2-3@", "0-0@", ",", "5", "10", "0", "00", "123", "9999", "1", "-", "@",
        "4", "x", "3-1@7,", "0-2@20", ",1-3@",
    };

    private final StringBuilder calls = new StringBuilder();
    private final KeyGraves x = new KeyGraves();
    private final Model m = new Model();
    private long seed;
    private int done = 0;

    private ModelTest(long seed) {
        this.seed = seed * 7919 + 17;
    }

    public static void main(String[] args) {
        for (int run = 0; run < RUNS; run++) {
            new ModelTest(run).run(run);
        }
        System.out.println(RUNS + " runs as the model has them");
    }

    private int below(int bound) {
        seed = seed * 6364136223846793005L + 1442695040888963407L;
        return (int) Math.floorMod(seed >>> 33, (long) bound);
    }

    /** A number of the range, and now and then one beside it. */
    private int near(int least, int greatest) {
        int edge = below(60);
        if (edge == 0) {
            return least - 1;
        }
        return edge == 1 ? greatest + 1 : least + below(greatest - least + 1);
    }

    private void same(String call, int got, int want) {
        if (got != want) {
            System.out.println(calls);
            System.out.println(call + " answered " + got + ", the model " + want);
            System.exit(1);
        }
    }

    private void call(String call, int got, int want) {
        calls.append(call).append(" = ").append(got).append('\n');
        done++;
        same(call, got, want);
    }

    private void run(int run) {
        // Few keys and short graces let graves be cleared and deleted keys come back often.
        int keys = 1 + run % 8;
        int graces = run % 3 == 0 ? 500 : 6;
        while (done < CALLS) {
            act(keys, graces);
            if (done % 8 == 0) {
                tellAll();
            } else {
                tellSome();
            }
        }
        tellAll();
    }

    private void act(int keys, int graces) {
        int kind = below(100);
        if (kind < 45) {
            useKeys(keys);
        } else if (kind < 75) {
            useNodes();
        } else if (kind < 84) {
            useSettings(graces);
        } else if (kind < 92) {
            useTexts();
        } else {
            useHistory();
        }
    }

    private void useKeys(int keys) {
        int node = near(0, 3);
        int key = near(0, keys - 1);
        int kind = below(9);
        if (kind < 2) {
            int value = near(0, 99);
            call("write(" + node + ", " + key + ", " + value + ")",
                x.write(node, key, value), m.write(node, key, value));
        } else if (kind < 5) {
            call("delete(" + node + ", " + key + ")", x.delete(node, key), m.delete(node, key));
        } else {
            call("read(" + node + ", " + key + ")", x.read(node, key), m.read(node, key));
        }
    }

    private void useNodes() {
        int one = near(0, 3);
        int other = near(0, 3);
        int kind = below(12);
        if (kind < 4) {
            call("repair(" + one + ", " + other + ")", x.repair(one, other), m.repair(one, other));
        } else if (kind < 7) {
            call("clear(" + one + ")", x.clear(one), m.clear(one));
        } else if (kind < 10) {
            int ticks = below(20) == 0 ? near(1, 99) : near(1, 5);
            call("pass(" + ticks + ")", x.pass(ticks), m.pass(ticks));
        } else if (kind < 11) {
            boolean up = below(3) > 0;
            call("setUp(" + one + ", " + up + ")", x.setUp(one, up), m.setUp(one, up));
        } else {
            int tick = below(5) == 0 ? near(0, 9999) : x.count(0) + below(8);
            call("plan(" + one + ", " + other + ", " + tick + ")",
                x.plan(one, other, tick), m.plan(one, other, tick));
        }
    }

    private void useSettings(int graces) {
        int which = near(0, 4);
        int greatest = which == 2 ? graces : which < 2 ? 4 : 1;
        int value = near(which > 2 ? 0 : 1, greatest);
        call("set(" + which + ", " + value + ")", x.set(which, value), m.set(which, value));
    }

    private void useTexts() {
        int kind = below(5);
        if (kind == 0) {
            call("clearText()", x.clearText(), m.clearText());
        } else if (kind < 3) {
            call("readPlan()", x.readPlan(), m.readPlan());
        } else {
            String piece = TEXTS[below(TEXTS.length)];
            for (int i = 0; i < piece.length() && done < CALLS; i++) {
                char sign = piece.charAt(i);
                call("type('" + sign + "')", x.type(sign), m.type(sign));
            }
        }
    }

    private void useHistory() {
        int kind = below(6);
        if (kind < 3) {
            call("undo()", x.undo(), m.undo());
        } else if (kind < 4) {
            call("keep()", x.keep(), m.keep());
        } else if (kind < 5) {
            call("restore()", x.restore(), m.restore());
        } else {
            call("readPlan()", x.readPlan(), m.readPlan());
        }
    }

    private void tellSome() {
        for (int what = -1; what <= 13; what++) {
            same("count(" + what + ")", x.count(what), m.count(what));
        }
        for (int what = 0; what <= 3; what++) {
            same("event(0, " + what + ")", x.event(0, what), m.event(0, what));
        }
        same("slowest()", x.slowest(), m.slowest());
        same("graceNeeded()", x.graceNeeded(), m.graceNeeded());
    }

    private void tellAll() {
        tellSome();
        for (int one = -1; one <= 8; one++) {
            for (int other = -1; other <= 8; other++) {
                for (int what = -1; what <= 7; what++) {
                    String args = "(" + one + ", " + other + ", " + what + ")";
                    same("known" + args, x.known(one, other, what), m.known(one, other, what));
                    same("pair" + args, x.pair(one, other, what), m.pair(one, other, what));
                }
            }
            for (int what = -1; what <= 6; what++) {
                String args = "(" + one + ", " + what + ")";
                same("truth" + args, x.truth(one, what), m.truth(one, what));
                same("node" + args, x.node(one, what), m.node(one, what));
            }
            same("setting(" + one + ")", x.setting(one), m.setting(one));
        }
        for (int place = -1; place <= 11; place++) {
            for (int what = -1; what <= 4; what++) {
                String args = "(" + place + ", " + what + ")";
                same("event" + args, x.event(place, what), m.event(place, what));
                same("planned" + args, x.planned(place, what), m.planned(place, what));
            }
        }
    }
}
