/** All that an object tells of its state, in one number. */
final class Told {
    private Told() {
    }

    static int hash(KeyGraves x) {
        int hash = x.slowest() * 31 + x.graceNeeded();
        for (int one = 0; one < 4; one++) {
            for (int key = 0; key < 8; key++) {
                for (int what = 0; what <= 6; what++) {
                    hash = hash * 31 + x.known(one, key, what);
                }
            }
            for (int what = 0; what <= 5; what++) {
                hash = hash * 31 + x.node(one, what);
            }
            for (int other = 0; other < 4; other++) {
                hash = hash * 31 + x.pair(one, other, 0);
            }
        }
        for (int key = 0; key < 8; key++) {
            for (int what = 0; what <= 4; what++) {
                hash = hash * 31 + x.truth(key, what);
            }
        }
        for (int back = 0; back <= 10; back++) {
            for (int what = 0; what <= 3; what++) {
                hash = hash * 31 + x.event(back, what);
                hash = hash * 31 + x.planned(back, Math.min(what, 2));
            }
        }
        for (int what = 0; what <= 10; what++) {
            hash = hash * 31 + x.count(what);
        }
        for (int which = 0; which < 5; which++) {
            hash = hash * 31 + x.setting(which);
        }
        return hash;
    }
}
