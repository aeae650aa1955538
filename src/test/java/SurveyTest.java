import java.util.NoSuchElementException;

/** The promises 1, 23, 30, 33 and 34: a new loft, states, and what is told of all. */
public final class SurveyTest {
    private static final Class<NoSuchElementException> NONE = NoSuchElementException.class;

    public static void main(String[] args) {
        newLoftIsEmpty();
        statesAreTold();
        nextIsPackedLongestAgo();
        nextLeavesOutOthers();
        nextLeavesOutTheOld();
        shareOfGrounded();
        meanOfDrops();
        fullLoftAnswers();
        Due.end();
    }

    private static void newLoftIsEmpty() {
        Silkloft loft = new Silkloft();
        Due.is("held", loft.held(), 0);
        Due.is("kept", loft.kept(), 0);
        Due.is("isSound", loft.isSound(), true);
        Due.fails("next", NONE, () -> loft.next());
        Due.fails("groundedShare", ArithmeticException.class, () -> loft.groundedShare());
        Due.fails("meanDrops", ArithmeticException.class, () -> loft.meanDrops());
        Due.fails("stateOf", Lofts.INDEX, () -> loft.stateOf(0));
        Due.fails("find", Lofts.INDEX, () -> loft.find(0));
        Due.fails("grounds", Lofts.INDEX, () -> loft.grounds(0));
        Due.fails("leave", Lofts.INDEX, () -> loft.leave(0));
        Due.fails("setLicences", Lofts.INDEX, () -> loft.setLicences(0, 0, 0));
        Due.is("the day", loft.goOn(1), 1);
        Silkloft other = new Silkloft();
        Due.is("the day of another", other.goOn(2), 2);
    }

    private static void statesAreTold() {
        Silkloft loft = Lofts.packed("mrmrm");
        loft.load();
        loft.board(0, 0, 1);
        loft.hire(2, 1, 1);
        loft.drop(4, true);
        Due.is("aboard", loft.stateOf(0), 'a');
        Due.is("reserve aboard", loft.stateOf(1), 'a');
        Due.is("on hire", loft.stateOf(2), 'h');
        Due.is("packed", loft.stateOf(3), 'k');
        Due.is("open", loft.stateOf(4), 'o');
        loft.hang(4, 0);
        Due.is("being packed", loft.stateOf(4), 'p');
        Due.fails("stateOf(-1)", Lofts.INDEX, () -> loft.stateOf(-1));
        Due.fails("stateOf(5)", Lofts.INDEX, () -> loft.stateOf(5));
    }

    private static void nextIsPackedLongestAgo() {
        Silkloft loft = Lofts.with("mrrrr");
        Lofts.pack(loft, 0);
        Due.fails("mains alone", NONE, () -> loft.next());
        loft.goOn(1);
        Lofts.pack(loft, 2);
        Lofts.pack(loft, 3);
        loft.goOn(1);
        Lofts.pack(loft, 1);
        Due.is("the lowest of two", loft.next(), 2);
        loft.goOn(1);
        loft.drop(2, true);
        Due.is("the other", loft.next(), 3);
        Lofts.pack(loft, 2);
        Due.is("packed anew", loft.next(), 3);
        loft.find(3);
        Due.is("grounded", loft.next(), 3);
        loft.drop(3, true);
        Due.is("then", loft.next(), 1);
    }

    private static void nextLeavesOutOthers() {
        Silkloft loft = Lofts.with("mrrrr");
        for (int i = 0; i < 4; i++) {
            Lofts.pack(loft, i);
            loft.goOn(1);
        }
        loft.load();
        loft.board(0, 0, 1);
        Due.is("aboard left out", loft.next(), 2);
        loft.hire(2, 1, 1);
        Due.is("on hire left out", loft.next(), 3);
        loft.hang(4, 0);
        loft.drop(3, true);
        Due.fails("open and being packed left out", NONE, () -> loft.next());
        loft.leave(0);
        Due.is("packed as before", loft.next(), 1);
    }

    private static void nextLeavesOutTheOld() {
        Silkloft loft = Lofts.staffed();
        loft.addCanopy('r', 0, 0, 5);
        loft.addCanopy('r', 0, 0, 999);
        loft.addCanopy('r', 0, 0, 999);
        Lofts.pack(loft, 0);
        loft.goOn(3);
        Lofts.pack(loft, 1);
        loft.goOn(2);
        Lofts.pack(loft, 2);
        Due.is("as old as its life", loft.next(), 0);
        loft.goOn(1);
        Due.is("older than its life", loft.next(), 1);
        loft.setPeriod(3);
        Due.is("on the last day of the period", loft.next(), 1);
        loft.goOn(1);
        Due.is("behind the period", loft.next(), 2);
        loft.goOn(2);
        Due.fails("all behind it", NONE, () -> loft.next());
        loft.setPeriod(180);
        Due.is("by a longer period", loft.next(), 1);
    }

    private static void shareOfGrounded() {
        Silkloft loft = Lofts.with("mrm");
        Due.is("none", loft.groundedShare(), 0f);
        loft.find(0);
        Due.is("one of three", loft.groundedShare(), 1f / 3f);
        loft.find(0);
        Due.is("by two findings", loft.groundedShare(), 1f / 3f);
        loft.find(2);
        Due.is("two of three", loft.groundedShare(), 2f / 3f);
        loft.find(1);
        Due.is("all", loft.groundedShare(), 1f);
    }

    private static void meanOfDrops() {
        Silkloft loft = Lofts.packed("mrm");
        Due.is("none", loft.meanDrops(), 0.0);
        Lofts.dropAndPack(loft, 0, true);
        Due.is("one", loft.meanDrops(), 1.0 / 3.0);
        Lofts.dropAndPack(loft, 0, true);
        loft.drop(1, true);
        Due.is("three", loft.meanDrops(), 1.0);
        Lofts.dropAndPack(loft, 0, true);
        Due.is("four", loft.meanDrops(), 4.0 / 3.0);
        loft.drop(0, false);
        Due.is("a bad one", loft.meanDrops(), 1.0 / 3.0);
    }

    /** As many of each as there may be, so that every count stands at its bound. */
    private static void fullLoftAnswers() {
        Silkloft loft = Lofts.staffed();
        loft.addRigger(63, 9999);
        loft.addRigger(63, 9999);
        for (int i = 0; i < 24; i++) {
            loft.addCanopy(i < 12 ? 'm' : 'r', 1, 1, 9999);
            Lofts.pack(loft, i, i % 6, 7, 6, 5, 4, 3);
        }
        for (int i = 0; i < 30; i++) {
            loft.load();
        }
        for (int i = 0; i < 12; i++) {
            loft.find(i + 12);
        }
        Due.is("sound", loft.isSound(), true);
        for (int i = 0; i < 4; i++) {
            loft.widen(11);
        }
        Due.is("all by the last finding", loft.grounds(11), 24);
        Due.is("share", loft.groundedShare(), 1f);
        for (int i = 0; i < 12; i++) {
            loft.close(i);
        }
        for (int i = 0; i < 6; i++) {
            Due.is("board", loft.board(29, i, 23 - i), i + 1);
        }
        Due.is("jump", loft.jump(29, 63), 6);
        Due.is("hang", loft.hang(23, 5), 1);
        loft.breakOff(23);
        Due.is("repair by the last rigger", loft.repair(23, 7), 1);
        Due.is("hire", loft.hire(11, 3, 9), 3);
        Due.is("held", loft.held(), 9);
        Due.is("drop", loft.drop(10, false), 0);
        Due.is("no room for its finding", loft.isGrounded(10), false);
        Due.is("mean", loft.meanDrops(), 0.0);
        Due.is("sharers", loft.sharers(23), 3);
        Due.is("next", loft.next(), 12);
        Due.is("sound still", loft.isSound(), true);
    }
}
