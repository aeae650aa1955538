/** Lofts for the tests, and acts that take several calls. */
final class Lofts {
    static final Class<IndexOutOfBoundsException> INDEX = IndexOutOfBoundsException.class;
    static final Class<IllegalArgumentException> ARGUMENT = IllegalArgumentException.class;
    static final Class<UnsupportedOperationException> UNSUPPORTED =
            UnsupportedOperationException.class;
    static final Class<IllegalStateException> STATE = IllegalStateException.class;

    private Lofts() {
    }

    /** Six riggers with all licences for ever, and no canopy. */
    static Silkloft staffed() {
        Silkloft loft = new Silkloft();
        for (int i = 0; i < 6; i++) {
            loft.addRigger(63, 9999);
        }
        return loft;
    }

    /** A staffed loft with these canopies, 'm' or 'r', no two of which share a lot. */
    static Silkloft with(String kinds) {
        Silkloft loft = staffed();
        for (int i = 0; i < kinds.length(); i++) {
            loft.addCanopy(kinds.charAt(i), i % 10, i % 10, 9999);
        }
        return loft;
    }

    /** As with, each canopy packed on the hook 0 by the riggers 0 and 1. */
    static Silkloft packed(String kinds) {
        Silkloft loft = with(kinds);
        for (int i = 0; i < kinds.length(); i++) {
            pack(loft, i);
        }
        return loft;
    }

    static void pack(Silkloft loft, int canopy) {
        pack(loft, canopy, 0);
    }

    static void pack(Silkloft loft, int canopy, int hook) {
        pack(loft, canopy, hook, 0, 0, 0, 0, 1);
    }

    static void pack(Silkloft loft, int canopy, int hook, int... riggers) {
        loft.hang(canopy, hook);
        for (int rigger : riggers) {
            loft.step(canopy, rigger);
        }
    }

    /** Drops a packed canopy with this outcome and packs it again. */
    static void dropAndPack(Silkloft loft, int canopy, boolean isGood) {
        loft.drop(canopy, isGood);
        pack(loft, canopy);
    }

    /**
     * A loft whose canopy 0, of this kind, is in this state; the canopy 1, of the other kind, is
     * packed, or aboard with it on the load 0. No other load begins, and no finding is made.
     */
    static Silkloft inState(char kind, char state) {
        return inState(kind, state, 9999);
    }

    /** As the other, the canopy 0 with this life. */
    static Silkloft inState(char kind, char state, int life) {
        Silkloft loft = staffed();
        loft.addCanopy(kind, 1, 1, life);
        loft.addCanopy(kind == 'm' ? 'r' : 'm', 2, 2, 9999);
        pack(loft, 1, 5);
        if (state == 'p') {
            loft.hang(0, 4);
            loft.step(0, 0);
        } else if (state != 'o') {
            pack(loft, 0, 4);
        }
        if (state == 'a') {
            loft.load();
            loft.board(0, kind == 'm' ? 0 : 1, kind == 'm' ? 1 : 0);
        } else if (state == 'h') {
            loft.hire(0, 30, 100);
        }
        return loft;
    }

    /** Numbers of none, if there are so many: too small, too large, and such as wrap around. */
    static int[] noneOf(int count) {
        return new int[] {-1, count, count + 1, Integer.MIN_VALUE, Integer.MAX_VALUE,
            -count - 1, 256, 65536, -256};
    }

    /** Numbers outside of these two: the next ones, the last ones, and such as wrap around. */
    static int[] outside(int least, int most) {
        return new int[] {least - 1, most + 1, Integer.MIN_VALUE, Integer.MAX_VALUE,
            least + 65536, most - 65536, -most - 1};
    }

    /** All signs up to 255 but these, and some above that come to these if they are cut. */
    static char[] signsBut(String allowed) {
        StringBuilder signs = new StringBuilder();
        for (char sign = 0; sign < 256; sign++) {
            if (allowed.indexOf(sign) < 0) {
                signs.append(sign);
            }
        }
        for (int i = 0; i < allowed.length(); i++) {
            signs.append((char) (allowed.charAt(i) + 256));
            signs.append((char) (allowed.charAt(i) + 32768));
        }
        return signs.append((char) 65535).toString().toCharArray();
    }

    /** Drops a packed canopy well and packs it on this hook. */
    static void dropAndPackOn(Silkloft loft, int canopy, int hook) {
        loft.drop(canopy, true);
        pack(loft, canopy, hook);
    }

    /** A loft with something of everything. */
    static Silkloft busy() {
        Silkloft loft = packed("mrmrmm");
        loft.setPeriod(90);
        loft.goOn(2);
        loft.load();
        loft.board(0, 0, 1);
        loft.hire(2, 1, 40);
        loft.drop(3, false);
        loft.repair(3, 0);
        loft.goOn(9);
        loft.back(2, true, false);
        loft.hire(4, 9, 70);
        loft.hang(3, 2);
        loft.step(3, 4);
        dropAndPack(loft, 5, true);
        dropAndPack(loft, 5, true);
        loft.load();
        return loft;
    }

    /** Lets the loft go on by more days than one call may. */
    static void goOn(Silkloft loft, int days) {
        int left = days;
        while (left > 0) {
            int now = Math.min(left, 999);
            loft.goOn(now);
            left -= now;
        }
    }
}
