/**
 * "If several conditions of a method apply, the exception that is listed first is thrown": each
 * pair of exceptions of a method that can apply at once.
 */
public final class OrderTest {
    public static void main(String[] args) {
        addRigger();
        setLicences();
        addCanopy();
        goOn();
        hang();
        step();
        boardWithoutLoadOrCanopy();
        boardWithWrongKinds();
        boardWithUnfitOnes();
        find();
        tellCause();
        repair();
        hire();
        packingOf();
        Due.end();
    }

    private static void addRigger() {
        Silkloft loft = Lofts.staffed();
        loft.addRigger(0, 0);
        loft.addRigger(0, 0);
        Due.fails("64 licences, 8 riggers", Lofts.ARGUMENT, () -> loft.addRigger(64, 0));
        Due.fails("day 10000, 8 riggers", Lofts.ARGUMENT, () -> loft.addRigger(0, 10000));
        Due.fails("8 riggers", Lofts.STATE, () -> loft.addRigger(0, 0));
    }

    private static void setLicences() {
        Silkloft loft = Lofts.staffed();
        Due.fails("no rigger, 64 licences", Lofts.INDEX, () -> loft.setLicences(6, 64, 0));
        Due.fails("no rigger, day -1", Lofts.INDEX, () -> loft.setLicences(-1, 0, -1));
    }

    private static void addCanopy() {
        Silkloft loft = Lofts.with("mmmmmmmmmmmmmmmmmmmmmmmm");
        Due.fails("no kind, 24 canopies", Lofts.ARGUMENT, () -> loft.addCanopy('x', 0, 0, 1));
        Due.fails("no cloth, 24 canopies", Lofts.ARGUMENT, () -> loft.addCanopy('m', -1, 0, 1));
        Due.fails("no lines, 24 canopies", Lofts.ARGUMENT, () -> loft.addCanopy('m', 0, -1, 1));
        Due.fails("no life, 24 canopies", Lofts.ARGUMENT, () -> loft.addCanopy('m', 0, 0, 0));
        Due.fails("24 canopies", Lofts.STATE, () -> loft.addCanopy('m', 0, 0, 1));
    }

    private static void goOn() {
        Silkloft loft = new Silkloft();
        Lofts.goOn(loft, 9999);
        Due.fails("1000 days on the last", Lofts.ARGUMENT, () -> loft.goOn(1000));
        Due.fails("all days on the last", Lofts.ARGUMENT, () -> loft.goOn(Integer.MAX_VALUE));
        Due.fails("1 day on the last", Lofts.STATE, () -> loft.goOn(1));
    }

    private static void hang() {
        Silkloft loft = Lofts.inState('m', 'p');
        loft.addCanopy('m', 0, 0, 9);
        Due.fails("no canopy, no hook", Lofts.INDEX, () -> loft.hang(3, 6));
        Due.fails("no canopy, hook in use", Lofts.INDEX, () -> loft.hang(3, 4));
        Due.fails("no hook, being packed", Lofts.ARGUMENT, () -> loft.hang(0, 6));
        Due.fails("no hook, packed", Lofts.ARGUMENT, () -> loft.hang(1, -1));
        Due.fails("being packed on this hook", Lofts.UNSUPPORTED, () -> loft.hang(0, 4));
        Due.fails("packed, hook in use", Lofts.UNSUPPORTED, () -> loft.hang(1, 4));
        Due.fails("hook in use", Lofts.STATE, () -> loft.hang(2, 4));
    }

    private static void step() {
        Silkloft loft = Lofts.inState('m', 'p');
        loft.addRigger(0, 9999);
        loft.addCanopy('m', 0, 0, 9);
        Due.fails("no rigger, packed", Lofts.INDEX, () -> loft.step(1, 7));
        Due.fails("no rigger, open", Lofts.INDEX, () -> loft.step(2, -1));
        Due.fails("no canopy, no licence", Lofts.INDEX, () -> loft.step(3, 6));
        Due.fails("packed, no licence", Lofts.UNSUPPORTED, () -> loft.step(1, 6));
        Due.fails("open, no licence", Lofts.UNSUPPORTED, () -> loft.step(2, 6));
        Due.fails("no licence", Lofts.ARGUMENT, () -> loft.step(0, 6));
    }

    /** Six jumpers are aboard the load 0; the main 6 and the reserve 13 are left. */
    private static Silkloft withFullLoad() {
        Silkloft loft = Lofts.packed("mmmmmmmrrrrrrr");
        loft.load();
        for (int i = 0; i < 6; i++) {
            loft.board(0, i, i + 7);
        }
        return loft;
    }

    private static void boardWithoutLoadOrCanopy() {
        Silkloft loft = withFullLoad();
        Due.fails("no load, two mains", Lofts.INDEX, () -> loft.board(1, 6, 6));
        Due.fails("no main, two mains", Lofts.INDEX, () -> loft.board(0, 14, 6));
        Due.fails("no reserve, two reserves", Lofts.INDEX, () -> loft.board(0, 13, 14));
        Due.fails("no load, aboard", Lofts.INDEX, () -> loft.board(1, 0, 7));
        Due.fails("no reserve, aboard", Lofts.INDEX, () -> loft.board(0, 0, 14));
        Due.fails("no main, full load", Lofts.INDEX, () -> loft.board(0, -1, 13));
    }

    private static void boardWithWrongKinds() {
        Silkloft loft = withFullLoad();
        Due.fails("two mains, aboard", Lofts.ARGUMENT, () -> loft.board(0, 0, 1));
        Due.fails("two reserves, aboard", Lofts.ARGUMENT, () -> loft.board(0, 7, 8));
        Due.fails("changed, full load", Lofts.ARGUMENT, () -> loft.board(0, 13, 6));
        loft.jump(0, 0);
        Due.fails("changed, jumped", Lofts.ARGUMENT, () -> loft.board(0, 13, 6));
        loft.drop(6, true);
        Due.fails("changed, open", Lofts.ARGUMENT, () -> loft.board(0, 13, 6));
    }

    private static void boardWithUnfitOnes() {
        Silkloft loft = withFullLoad();
        Due.fails("full load", Lofts.STATE, () -> loft.board(0, 6, 13));
        Due.fails("aboard, full load", Lofts.UNSUPPORTED, () -> loft.board(0, 0, 13));
        int ofMain = loft.find(6);
        Due.fails("grounded main, full load", Lofts.UNSUPPORTED, () -> loft.board(0, 6, 13));
        loft.close(ofMain);
        int ofReserve = loft.find(13);
        Due.fails("grounded reserve, full load", Lofts.UNSUPPORTED, () -> loft.board(0, 6, 13));
        loft.close(ofReserve);
        loft.goOn(181);
        Due.fails("reserve out of date, full load", Lofts.UNSUPPORTED,
                () -> loft.board(0, 6, 13));
        loft.setPeriod(999);
        loft.jump(0, 0);
        Due.fails("jumped, full load", Lofts.UNSUPPORTED, () -> loft.board(0, 6, 13));
    }

    private static void find() {
        Silkloft loft = Lofts.with("m");
        for (int i = 0; i < 12; i++) {
            loft.find(0);
        }
        Due.fails("no canopy, 12 findings", Lofts.INDEX, () -> loft.find(1));
        Due.fails("canopy -1, 12 findings", Lofts.INDEX, () -> loft.find(-1));
        Due.fails("12 findings", Lofts.STATE, () -> loft.find(0));
    }

    private static void tellCause() {
        Silkloft loft = Lofts.with("m");
        loft.find(0);
        loft.find(0);
        loft.close(1);
        Due.fails("no finding, no cause", Lofts.INDEX, () -> loft.tellCause(2, 'x'));
        Due.fails("no cause, closed", Lofts.ARGUMENT, () -> loft.tellCause(1, 'x'));
        Due.fails("no cause, no packing", Lofts.ARGUMENT, () -> loft.tellCause(0, 'H'));
        Due.fails("closed, no packing", Lofts.UNSUPPORTED, () -> loft.tellCause(1, 'h'));
    }

    private static void repair() {
        Silkloft loft = Lofts.packed("m");
        loft.addRigger(31, 9999);
        Due.fails("no rigger, packed", Lofts.INDEX, () -> loft.repair(0, 7));
        Due.fails("no canopy, no licence", Lofts.INDEX, () -> loft.repair(1, 6));
        Due.fails("packed, no licence", Lofts.UNSUPPORTED, () -> loft.repair(0, 6));
        loft.drop(0, true);
        Due.fails("no licence", Lofts.ARGUMENT, () -> loft.repair(0, 6));
    }

    private static void hire() {
        Silkloft loft = Lofts.packed("mr");
        Due.fails("no canopy, 31 days", Lofts.INDEX, () -> loft.hire(2, 31, 0));
        Due.fails("no canopy, deposit 1000", Lofts.INDEX, () -> loft.hire(-1, 1, 1000));
        loft.find(0);
        Due.fails("31 days, grounded", Lofts.ARGUMENT, () -> loft.hire(0, 31, 0));
        Due.fails("deposit -1, grounded", Lofts.ARGUMENT, () -> loft.hire(0, 1, -1));
        loft.goOn(181);
        Due.fails("0 days, out of date", Lofts.ARGUMENT, () -> loft.hire(1, 0, 0));
        loft.drop(0, true);
        Due.fails("0 days, open", Lofts.ARGUMENT, () -> loft.hire(0, 0, 0));
        Due.fails("deposit 1000, open", Lofts.ARGUMENT, () -> loft.hire(0, 1, 1000));
    }

    private static void packingOf() {
        Silkloft loft = Lofts.packed("m");
        Due.fails("no canopy, no thing", Lofts.INDEX, () -> loft.packingOf(1, 0, 'x'));
        Due.fails("no packing, no thing", Lofts.INDEX, () -> loft.packingOf(0, 1, 'x'));
        Due.fails("packing -1, no thing", Lofts.INDEX, () -> loft.packingOf(0, -1, '5'));
        Due.fails("no thing", Lofts.ARGUMENT, () -> loft.packingOf(0, 0, '5'));
    }
}
