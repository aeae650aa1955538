/** Lofts for the tests, and acts that take several calls. */
final class Lofts {
    static final Class<IndexOutOfBoundsException> INDEX = IndexOutOfBoundsException.class;
    static final Class<IllegalArgumentException> ARGUMENT = IllegalArgumentException.class;
    static final Class<UnsupportedOperationException> UNSUPPORTED =
            UnsupportedOperationException.class;
    static final Class<IllegalStateException> STATE = IllegalStateException.class;

    private Lofts() {
    }

    /** Six riggers with all licences for ever, and no canopy. */
    static Silkloft staffed() {
        Silkloft loft = new Silkloft();
        for (int i = 0; i < 6; i++) {
            loft.addRigger(63, 9999);
        }
        return loft;
    }

    /** A staffed loft with these canopies, 'm' or 'r', no two of which share a lot. */
    static Silkloft with(String kinds) {
        Silkloft loft = staffed();
        for (int i = 0; i < kinds.length(); i++) {
            loft.addCanopy(kinds.charAt(i), i % 10, i % 10, 9999);
        }
        return loft;
    }

    /** As with, each canopy packed on the hook 0 by the riggers 0 and 1. */
    static Silkloft packed(String kinds) {
        Silkloft loft = with(kinds);
        for (int i = 0; i < kinds.length(); i++) {
            pack(loft, i);
        }
        return loft;
    }

    static void pack(Silkloft loft, int canopy) {
        pack(loft, canopy, 0);
    }

    static void pack(Silkloft loft, int canopy, int hook) {
        pack(loft, canopy, hook, 0, 0, 0, 0, 1);
    }

    static void pack(Silkloft loft, int canopy, int hook, int... riggers) {
        loft.hang(canopy, hook);
        for (int rigger : riggers) {
            loft.step(canopy, rigger);
        }
    }

    /** Drops a packed canopy with this outcome and packs it again. */
    static void dropAndPack(Silkloft loft, int canopy, boolean isGood) {
        loft.drop(canopy, isGood);
        pack(loft, canopy);
    }

    /** Lets the loft go on by more days than one call may. */
    static void goOn(Silkloft loft, int days) {
        int left = days;
        while (left > 0) {
            int now = Math.min(left, 999);
            loft.goOn(now);
            left -= now;
        }
    }
}
