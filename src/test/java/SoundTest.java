/** The promise 35: a loft that was used by its methods alone is sound. SpoiltTest has the rest. */
public final class SoundTest {
    public static void main(String[] args) {
        loftsAreSound();
        checkingChangesNothing();
        soundTwice();
        allCallsMayBeActs();
        manyCallsDoNoHarm();
        Due.end();
    }

    private static void loftsAreSound() {
        Silkloft loft = new Silkloft();
        Due.is("new", loft.isSound(), true);
        loft.addRigger(31, 5);
        loft.addRigger(31, 9);
        loft.addCanopy('m', 0, 0, 9);
        loft.addCanopy('r', 0, 0, 9);
        Lofts.pack(loft, 0);
        Lofts.pack(loft, 1);
        loft.load();
        loft.board(0, 0, 1);
        loft.jump(0, 1);
        loft.setLicences(0, 0, 0);
        loft.setLicences(1, 0, 0);
        loft.goOn(20);
        loft.find(0);
        Due.is("what held then, not now", loft.isSound(), true);
        Due.is("busy", Lofts.busy().isSound(), true);
    }

    private static void checkingChangesNothing() {
        Silkloft loft = Lofts.busy();
        for (int i = 0; i < 5; i++) {
            Due.is("again", loft.isSound(), true);
        }
        Due.is("a step goes on", loft.step(3, 0), 2);
        Due.is("held", loft.held(), 70);
        Due.is("kept", loft.kept(), 40);
        Due.is("a load goes on", loft.jump(0, 0), 1);
        Due.is("then", loft.isSound(), true);
    }

    /** Each loft bears something that must not be left over from one check to the next. */
    private static void soundTwice() {
        Silkloft loft = Lofts.with("mrmr");
        Lofts.pack(loft, 0, 3, 0, 0, 0, 0, 1);
        Lofts.pack(loft, 1, 2, 2, 2, 2, 2, 3);
        Lofts.pack(loft, 2, 2, 2, 2, 2, 2, 3);
        loft.find(0);
        loft.tellCause(0, 'h');
        loft.load();
        loft.board(0, 2, 1);
        loft.leave(0);
        Lofts.pack(loft, 3, 2, 2, 2, 2, 2, 3);
        loft.drop(2, true);
        Lofts.pack(loft, 2, 3, 2, 2, 2, 2, 3);
        soundTwice("hooks", loft);
        loft = Lofts.with("mrm");
        Lofts.pack(loft, 0, 3, 0, 0, 0, 0, 1);
        Lofts.pack(loft, 1, 2, 2, 2, 2, 2, 3);
        Lofts.pack(loft, 2, 2, 2, 2, 2, 2, 3);
        loft.find(0);
        loft.tellCause(0, 'r');
        loft.load();
        loft.board(0, 2, 1);
        loft.jump(0, 0);
        Lofts.pack(loft, 2, 2, 2, 0, 2, 2, 3);
        soundTwice("riggers", loft);
        loft = Lofts.packed("mr");
        loft.drop(0, true);
        soundTwice("drops", loft);
        loft = Lofts.packed("mr");
        loft.goOn(5);
        loft.hire(1, 1, 5);
        loft.setPeriod(1);
        soundTwice("period", loft);
        loft = Lofts.packed("mr");
        loft.find(0);
        loft.widen(0);
        loft.close(0);
        soundTwice("findings", loft);
        loft = Lofts.packed("mr");
        loft.load();
        loft.board(0, 0, 1);
        loft.jump(0, 0);
        soundTwice("loads", loft);
    }

    private static void soundTwice(String what, Silkloft loft) {
        Due.is(what, loft.isSound(), true);
        Due.is(what + " again", loft.isSound(), true);
    }

    private static void allCallsMayBeActs() {
        Silkloft loft = new Silkloft();
        for (int i = 1; i <= 512; i++) {
            Due.is("act " + i, loft.goOn(1), i);
        }
    }

    /** What calls behind the 512th answer is free; they come to their end all the same. */
    private static void manyCallsDoNoHarm() {
        Silkloft loft = new Silkloft();
        loft.addRigger(63, 9999);
        loft.addCanopy('m', 0, 0, 1);
        for (int i = 0; i < 509; i++) {
            loft.setPeriod(1 + i);
        }
        Due.is("call 512", loft.isSound(), true);
        for (int i = 0; i < 600; i++) {
            loft.setPeriod(1 + i);
            loft.isSound();
        }
    }
}
