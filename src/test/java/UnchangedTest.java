/**
 * "A method that throws an exception changes nothing": each exception of each method, on lofts
 * in which there is something to change. The loft is compared with one that was not called.
 */
public final class UnchangedTest {
    private interface Maker {
        Silkloft make();
    }

    private interface Act {
        void on(Silkloft loft);
    }

    public static void main(String[] args) {
        newLoft();
        riggersAndCanopies();
        licencesAndTheirDay();
        fullLoft();
        daysAndPeriod();
        hanging();
        steps();
        breakingOff();
        boarding();
        fullLoad();
        leavingAndJumping();
        jumpingUnfit();
        findings();
        causes();
        repairsAndDrops();
        hire();
        questions();
        Due.end();
    }

    private static void refused(String what, Maker maker, Class<? extends Exception> due,
            Act act) {
        Silkloft touched = maker.make();
        Due.fails(what, due, () -> act.on(touched));
        String difference = Trace.difference(touched, maker.make());
        Due.note(what + " changes nothing", difference.equals("same"), difference, "same");
    }

    private static void newLoft() {
        Maker maker = Silkloft::new;
        Class<IndexOutOfBoundsException> index = Lofts.INDEX;
        refused("new: setLicences", maker, index, x -> x.setLicences(0, 1, 1));
        refused("new: hang", maker, index, x -> x.hang(0, 0));
        refused("new: step", maker, index, x -> x.step(0, 0));
        refused("new: breakOff", maker, index, x -> x.breakOff(0));
        refused("new: board", maker, index, x -> x.board(0, 0, 1));
        refused("new: leave", maker, index, x -> x.leave(0));
        refused("new: jump", maker, index, x -> x.jump(0, 1));
        refused("new: find", maker, index, x -> x.find(0));
        refused("new: widen", maker, index, x -> x.widen(0));
        refused("new: tellCause", maker, index, x -> x.tellCause(0, 'l'));
        refused("new: close", maker, index, x -> x.close(0));
        refused("new: repair", maker, index, x -> x.repair(0, 0));
        refused("new: drop", maker, index, x -> x.drop(0, false));
        refused("new: hire", maker, index, x -> x.hire(0, 1, 1));
        refused("new: back", maker, index, x -> x.back(0, true, true));
        refused("new: next", maker, java.util.NoSuchElementException.class, x -> x.next());
        refused("new: groundedShare", maker, ArithmeticException.class, x -> x.groundedShare());
        refused("new: meanDrops", maker, ArithmeticException.class, x -> x.meanDrops());
    }

    private static void riggersAndCanopies() {
        Maker maker = () -> Lofts.packed("mr");
        Class<IllegalArgumentException> argument = Lofts.ARGUMENT;
        refused("addRigger, licences", maker, argument, x -> x.addRigger(64, 1));
        refused("addRigger, day", maker, argument, x -> x.addRigger(1, -1));
        refused("setLicences, rigger", maker, Lofts.INDEX, x -> x.setLicences(6, 1, 1));
        refused("setLicences, licences", maker, argument, x -> x.setLicences(0, 64, 1));
        refused("setLicences, day", maker, argument, x -> x.setLicences(0, 1, 10000));
        refused("addCanopy, kind", maker, argument, x -> x.addCanopy('x', 1, 1, 1));
        refused("addCanopy, cloth", maker, argument, x -> x.addCanopy('m', 10, 1, 1));
        refused("addCanopy, lines", maker, argument, x -> x.addCanopy('m', 1, 10, 1));
        refused("addCanopy, life", maker, argument, x -> x.addCanopy('m', 1, 1, 0));
    }

    /** The last day of licences is told by no answer, only by what may be done. */
    private static void licencesAndTheirDay() {
        Silkloft loft = Lofts.with("m");
        loft.setLicences(0, 32, 5);
        Due.fails("licences too large", Lofts.ARGUMENT, () -> loft.setLicences(0, 64, 9));
        Due.fails("day too large", Lofts.ARGUMENT, () -> loft.setLicences(0, 63, 10000));
        Due.fails("day too small", Lofts.ARGUMENT, () -> loft.setLicences(0, 63, -1));
        loft.goOn(5);
        Due.is("the day as before", loft.repair(0, 0), 1);
        loft.hang(0, 0);
        Due.fails("the licences as before", Lofts.ARGUMENT, () -> loft.step(0, 0));
        loft.breakOff(0);
        loft.goOn(1);
        Due.fails("the day behind it", Lofts.ARGUMENT, () -> loft.repair(0, 0));
    }

    /** 8 riggers, 24 canopies, 30 loads and 12 findings. */
    private static Silkloft full() {
        Silkloft loft = Lofts.with("mrmrmrmrmrmrmrmrmrmrmrmr");
        loft.addRigger(1, 1);
        loft.addRigger(2, 2);
        for (int i = 0; i < 30; i++) {
            loft.load();
        }
        for (int i = 0; i < 12; i++) {
            loft.find(i);
        }
        return loft;
    }

    private static void fullLoft() {
        refused("ninth rigger", UnchangedTest::full, Lofts.STATE, x -> x.addRigger(1, 1));
        refused("canopy 25", UnchangedTest::full, Lofts.STATE, x -> x.addCanopy('m', 1, 1, 1));
        refused("load 31", UnchangedTest::full, Lofts.STATE, x -> x.load());
        refused("finding 13", UnchangedTest::full, Lofts.STATE, x -> x.find(23));
    }

    private static void daysAndPeriod() {
        Maker maker = () -> Lofts.inState('r', 'k');
        refused("setPeriod(0)", maker, Lofts.ARGUMENT, x -> x.setPeriod(0));
        refused("setPeriod(1000)", maker, Lofts.ARGUMENT, x -> x.setPeriod(1000));
        refused("goOn(0)", maker, Lofts.ARGUMENT, x -> x.goOn(0));
        refused("goOn(1000)", maker, Lofts.ARGUMENT, x -> x.goOn(1000));
        Maker late = () -> {
            Silkloft loft = Lofts.inState('r', 'k', 9000);
            Lofts.goOn(loft, 9900);
            return loft;
        };
        refused("goOn beyond 9999", late, Lofts.STATE, x -> x.goOn(100));
    }

    private static void hanging() {
        Maker maker = () -> {
            Silkloft loft = Lofts.inState('m', 'p');
            loft.addCanopy('r', 3, 3, 9);
            return loft;
        };
        refused("hang, canopy", maker, Lofts.INDEX, x -> x.hang(3, 0));
        refused("hang, hook", maker, Lofts.ARGUMENT, x -> x.hang(2, 6));
        refused("hang, being packed", maker, Lofts.UNSUPPORTED, x -> x.hang(0, 0));
        refused("hang, packed", maker, Lofts.UNSUPPORTED, x -> x.hang(1, 0));
        refused("hang, hook in use", maker, Lofts.STATE, x -> x.hang(2, 4));
        Maker aboard = () -> Lofts.inState('m', 'a');
        refused("hang, aboard", aboard, Lofts.UNSUPPORTED, x -> x.hang(0, 0));
        Maker onHire = () -> Lofts.inState('m', 'h');
        refused("hang, on hire", onHire, Lofts.UNSUPPORTED, x -> x.hang(0, 0));
    }

    private static void steps() {
        Maker maker = () -> {
            Silkloft loft = Lofts.with("mr");
            loft.addRigger(0, 9999);
            Lofts.pack(loft, 0, 2, 0, 1, 2, 3);
            return loft;
        };
        refused("step, canopy", maker, Lofts.INDEX, x -> x.step(2, 0));
        refused("step, rigger", maker, Lofts.INDEX, x -> x.step(0, 7));
        refused("step, open", maker, Lofts.UNSUPPORTED, x -> x.step(1, 0));
        refused("step, no licence", maker, Lofts.ARGUMENT, x -> x.step(0, 6));
        refused("step, by the same", maker, Lofts.ARGUMENT, x -> x.step(0, 3));
        for (char state : "kah".toCharArray()) {
            Maker other = () -> Lofts.inState('r', state);
            refused("step, state " + state, other, Lofts.UNSUPPORTED, x -> x.step(0, 1));
        }
    }

    private static void breakingOff() {
        Maker maker = () -> Lofts.inState('m', 'p');
        refused("breakOff, canopy", maker, Lofts.INDEX, x -> x.breakOff(2));
        for (char state : "okah".toCharArray()) {
            Maker other = () -> Lofts.inState('r', state);
            refused("breakOff, state " + state, other, Lofts.UNSUPPORTED, x -> x.breakOff(0));
        }
    }

    private static void boarding() {
        Maker maker = () -> {
            Silkloft loft = Lofts.packed("mrm");
            loft.load();
            return loft;
        };
        refused("board, load", maker, Lofts.INDEX, x -> x.board(1, 0, 1));
        refused("board, main", maker, Lofts.INDEX, x -> x.board(0, 3, 1));
        refused("board, reserve", maker, Lofts.INDEX, x -> x.board(0, 0, 3));
        refused("board, kinds", maker, Lofts.ARGUMENT, x -> x.board(0, 1, 0));
        refused("board, two mains", maker, Lofts.ARGUMENT, x -> x.board(0, 0, 2));
        for (char state : "opah".toCharArray()) {
            Maker other = () -> {
                Silkloft loft = Lofts.inState('m', state);
                loft.addCanopy('r', 3, 3, 9999);
                Lofts.pack(loft, 2, 2);
                loft.load();
                return loft;
            };
            refused("board, main in " + state, other, Lofts.UNSUPPORTED, x -> x.board(0, 0, 2));
        }
        Maker grounded = () -> {
            Silkloft loft = maker.make();
            loft.find(1);
            return loft;
        };
        refused("board, grounded", grounded, Lofts.UNSUPPORTED, x -> x.board(0, 0, 1));
        Maker old = () -> {
            Silkloft loft = maker.make();
            loft.goOn(181);
            return loft;
        };
        refused("board, out of date", old, Lofts.UNSUPPORTED, x -> x.board(0, 0, 1));
    }

    private static void fullLoad() {
        Maker maker = () -> {
            Silkloft loft = Lofts.packed("mmmmmmmrrrrrrr");
            loft.load();
            for (int i = 0; i < 6; i++) {
                loft.board(0, i, i + 7);
            }
            return loft;
        };
        refused("board, 6 aboard", maker, Lofts.STATE, x -> x.board(0, 6, 13));
    }

    private static void leavingAndJumping() {
        Maker maker = () -> {
            Silkloft loft = Lofts.packed("mrmr");
            for (int i = 0; i < 3; i++) {
                loft.load();
            }
            loft.board(1, 0, 1);
            loft.jump(1, 0);
            loft.board(2, 2, 3);
            return loft;
        };
        refused("leave, load", maker, Lofts.INDEX, x -> x.leave(3));
        refused("leave, nobody", maker, Lofts.UNSUPPORTED, x -> x.leave(0));
        refused("leave, jumped", maker, Lofts.UNSUPPORTED, x -> x.leave(1));
        refused("jump, load", maker, Lofts.INDEX, x -> x.jump(3, 1));
        refused("jump, nobody", maker, Lofts.UNSUPPORTED, x -> x.jump(0, 1));
        refused("jump, jumped", maker, Lofts.UNSUPPORTED, x -> x.jump(1, 1));
        refused("board, jumped", maker, Lofts.UNSUPPORTED, x -> x.board(1, 0, 1));
    }

    /** What is wrong is aboard last, so that nobody may have jumped before it is seen. */
    private static void jumpingUnfit() {
        Maker maker = () -> {
            Silkloft loft = Lofts.packed("mrmr");
            loft.load();
            loft.board(0, 0, 1);
            loft.board(0, 2, 3);
            return loft;
        };
        for (int i = 0; i < 4; i++) {
            int canopy = i;
            Maker grounded = () -> {
                Silkloft loft = maker.make();
                loft.find(canopy);
                return loft;
            };
            refused("jump, grounded " + i, grounded, Lofts.UNSUPPORTED, x -> x.jump(0, 3));
        }
        Maker old = () -> {
            Silkloft loft = maker.make();
            loft.goOn(181);
            return loft;
        };
        refused("jump, out of date", old, Lofts.UNSUPPORTED, x -> x.jump(0, 3));
    }

    private static void findings() {
        Maker maker = () -> {
            Silkloft loft = Lofts.packed("mr");
            loft.find(0);
            loft.find(0);
            loft.close(1);
            loft.find(1);
            loft.tellCause(2, 'h');
            loft.find(1);
            for (int i = 0; i < 4; i++) {
                loft.widen(3);
            }
            return loft;
        };
        refused("find, canopy", maker, Lofts.INDEX, x -> x.find(2));
        refused("widen, finding", maker, Lofts.INDEX, x -> x.widen(4));
        refused("widen, closed", maker, Lofts.UNSUPPORTED, x -> x.widen(1));
        refused("widen, told", maker, Lofts.UNSUPPORTED, x -> x.widen(2));
        refused("widen, level 4", maker, Lofts.UNSUPPORTED, x -> x.widen(3));
        refused("close, finding", maker, Lofts.INDEX, x -> x.close(4));
        refused("grounds, finding", maker, Lofts.INDEX, x -> x.grounds(4));
    }

    private static void causes() {
        Maker maker = () -> {
            Silkloft loft = Lofts.packed("mr");
            loft.addCanopy('m', 0, 0, 9);
            loft.find(0);
            loft.tellCause(0, 'l');
            loft.find(0);
            loft.close(1);
            loft.find(2);
            loft.tellCause(2, 'c');
            return loft;
        };
        refused("tellCause, finding", maker, Lofts.INDEX, x -> x.tellCause(3, 'h'));
        refused("tellCause, cause", maker, Lofts.ARGUMENT, x -> x.tellCause(0, '-'));
        refused("tellCause, closed", maker, Lofts.UNSUPPORTED, x -> x.tellCause(1, 'h'));
        refused("tellCause, no hook", maker, Lofts.UNSUPPORTED, x -> x.tellCause(2, 'h'));
        refused("tellCause, no riggers", maker, Lofts.UNSUPPORTED, x -> x.tellCause(2, 'r'));
    }

    private static void repairsAndDrops() {
        Maker maker = () -> {
            Silkloft loft = Lofts.inState('m', 'o');
            loft.addRigger(31, 9999);
            loft.repair(0, 0);
            Lofts.pack(loft, 0);
            loft.drop(0, true);
            return loft;
        };
        refused("repair, canopy", maker, Lofts.INDEX, x -> x.repair(2, 0));
        refused("repair, rigger", maker, Lofts.INDEX, x -> x.repair(0, 7));
        refused("repair, no licence", maker, Lofts.ARGUMENT, x -> x.repair(0, 6));
        refused("drop, canopy", maker, Lofts.INDEX, x -> x.drop(2, false));
        refused("bad drop, open", maker, Lofts.UNSUPPORTED, x -> x.drop(0, false));
        refused("good drop, open", maker, Lofts.UNSUPPORTED, x -> x.drop(0, true));
        for (char state : "pkah".toCharArray()) {
            Maker other = () -> Lofts.inState('r', state);
            refused("repair, state " + state, other, Lofts.UNSUPPORTED, x -> x.repair(0, 0));
            if (state != 'k') {
                refused("drop, state " + state, other, Lofts.UNSUPPORTED, x -> x.drop(0, false));
            }
        }
    }

    private static void hire() {
        Maker maker = () -> Lofts.inState('r', 'k');
        refused("hire, canopy", maker, Lofts.INDEX, x -> x.hire(2, 1, 1));
        refused("hire, days", maker, Lofts.ARGUMENT, x -> x.hire(0, 31, 1));
        refused("hire, deposit", maker, Lofts.ARGUMENT, x -> x.hire(0, 1, 1000));
        refused("back, canopy", maker, Lofts.INDEX, x -> x.back(2, true, true));
        refused("back, packed", maker, Lofts.UNSUPPORTED, x -> x.back(0, true, true));
        for (char state : "opah".toCharArray()) {
            Maker other = () -> Lofts.inState('m', state);
            refused("hire, state " + state, other, Lofts.UNSUPPORTED, x -> x.hire(0, 9, 99));
            if (state != 'h') {
                refused("back, state " + state, other, Lofts.UNSUPPORTED,
                        x -> x.back(0, true, true));
            }
        }
        Maker grounded = () -> {
            Silkloft loft = maker.make();
            loft.find(0);
            return loft;
        };
        refused("hire, grounded", grounded, Lofts.UNSUPPORTED, x -> x.hire(0, 1, 1));
        Maker old = () -> {
            Silkloft loft = maker.make();
            loft.goOn(181);
            return loft;
        };
        refused("hire, out of date", old, Lofts.UNSUPPORTED, x -> x.hire(0, 1, 1));
    }

    private static void questions() {
        Maker maker = () -> Lofts.packed("mr");
        Class<IndexOutOfBoundsException> index = Lofts.INDEX;
        refused("stateOf", maker, index, x -> x.stateOf(2));
        refused("isGrounded", maker, index, x -> x.isGrounded(2));
        refused("isOut", maker, index, x -> x.isOut(2));
        refused("packings", maker, index, x -> x.packings(2));
        refused("packingOf, canopy", maker, index, x -> x.packingOf(2, 0, 'h'));
        refused("packingOf, packing", maker, index, x -> x.packingOf(0, 1, 'h'));
        refused("packingOf, thing", maker, Lofts.ARGUMENT, x -> x.packingOf(0, 0, 'x'));
        refused("jumps", maker, index, x -> x.jumps(2));
        refused("sharers", maker, index, x -> x.sharers(2));
    }
}
