/** The promises 21, 22, 31 and 32: hire and deposits. */
public final class HireTest {
    public static void main(String[] args) {
        canopiesAreHired();
        wrongHireIsRefused();
        unfitOnesAreNotHired();
        canopiesComeBack();
        wrongReturnsAreRefused();
        lateDaysAreKept();
        damageIsKept();
        neverLessThanNothing();
        damageIsFound();
        damageWithoutRoomForItsFinding();
        depositsAddUp();
        Due.end();
    }

    private static void canopiesAreHired() {
        Silkloft loft = Lofts.packed("mr");
        Due.is("for one day", loft.hire(0, 1, 0), 1);
        Due.is("state", loft.stateOf(0), 'h');
        loft.goOn(7);
        Due.is("for 30 days", loft.hire(1, 30, 999), 37);
        Due.is("state of the reserve", loft.stateOf(1), 'h');
    }

    private static void wrongHireIsRefused() {
        Silkloft loft = Lofts.packed("mr");
        Due.fails("canopy -1", Lofts.INDEX, () -> loft.hire(-1, 1, 0));
        Due.fails("canopy 2, 0 days", Lofts.INDEX, () -> loft.hire(2, 0, 0));
        Due.fails("0 days", Lofts.ARGUMENT, () -> loft.hire(0, 0, 0));
        Due.fails("31 days", Lofts.ARGUMENT, () -> loft.hire(0, 31, 0));
        Due.fails("deposit -1", Lofts.ARGUMENT, () -> loft.hire(0, 1, -1));
        Due.fails("deposit 1000", Lofts.ARGUMENT, () -> loft.hire(0, 1, 1000));
        loft.drop(0, true);
        Due.fails("open, 31 days", Lofts.ARGUMENT, () -> loft.hire(0, 31, 0));
        Due.is("nothing is held", loft.held(), 0);
    }

    private static void unfitOnesAreNotHired() {
        Silkloft loft = Lofts.packed("mrmr");
        loft.drop(0, true);
        Due.fails("open", Lofts.UNSUPPORTED, () -> loft.hire(0, 1, 1));
        loft.hang(0, 0);
        Due.fails("being packed", Lofts.UNSUPPORTED, () -> loft.hire(0, 1, 1));
        loft.load();
        loft.board(0, 2, 1);
        Due.fails("aboard", Lofts.UNSUPPORTED, () -> loft.hire(1, 1, 1));
        loft.leave(0);
        loft.hire(2, 1, 1);
        Due.fails("on hire", Lofts.UNSUPPORTED, () -> loft.hire(2, 1, 1));
        int finding = loft.find(3);
        Due.fails("grounded", Lofts.UNSUPPORTED, () -> loft.hire(3, 1, 1));
        loft.close(finding);
        loft.goOn(181);
        Due.fails("out of date", Lofts.UNSUPPORTED, () -> loft.hire(3, 1, 1));
        loft.setPeriod(181);
        Due.is("in date", loft.hire(3, 1, 1), 182);
    }

    private static void canopiesComeBack() {
        Silkloft loft = Lofts.packed("mr");
        loft.hire(0, 3, 100);
        loft.hire(1, 3, 200);
        loft.goOn(3);
        Due.is("used", loft.back(0, true, false), 100);
        Due.is("its state", loft.stateOf(0), 'o');
        Due.is("not used", loft.back(1, false, false), 200);
        Due.is("state of that", loft.stateOf(1), 'k');
        Due.is("packed as before", loft.packings(1), 1);
        Due.is("kept", loft.kept(), 0);
        Due.is("held", loft.held(), 0);
        Due.is("a hire is no jump", loft.jumps(0), 0);
        Due.fails("no finding", Lofts.INDEX, () -> loft.grounds(0));
    }

    private static void wrongReturnsAreRefused() {
        Silkloft loft = Lofts.packed("mr");
        Due.fails("canopy -1", Lofts.INDEX, () -> loft.back(-1, true, true));
        Due.fails("canopy 2", Lofts.INDEX, () -> loft.back(2, true, true));
        Due.fails("packed", Lofts.UNSUPPORTED, () -> loft.back(0, true, true));
        loft.hire(0, 1, 60);
        loft.back(0, false, true);
        Due.fails("back", Lofts.UNSUPPORTED, () -> loft.back(0, true, true));
        Due.is("kept once", loft.kept(), 50);
        loft.drop(1, true);
        Due.fails("open", Lofts.UNSUPPORTED, () -> loft.back(1, false, false));
        Due.fails("one finding", Lofts.INDEX, () -> loft.grounds(1));
    }

    private static void lateDaysAreKept() {
        Silkloft loft = Lofts.packed("mmmr");
        for (int i = 0; i < 4; i++) {
            loft.hire(i, 5, 100);
        }
        loft.goOn(4);
        Due.is("early", loft.back(0, false, false), 100);
        loft.goOn(1);
        Due.is("on its day", loft.back(1, false, false), 100);
        loft.goOn(1);
        Due.is("a day late", loft.back(2, false, false), 95);
        loft.goOn(9);
        Due.is("ten days late", loft.back(3, true, false), 50);
        Due.is("kept", loft.kept(), 55);
    }

    private static void damageIsKept() {
        Silkloft loft = Lofts.packed("mr");
        loft.hire(0, 5, 100);
        loft.hire(1, 5, 100);
        Due.is("damaged", loft.back(0, true, true), 50);
        loft.goOn(7);
        Due.is("damaged and late", loft.back(1, true, true), 40);
        Due.is("kept", loft.kept(), 110);
    }

    private static void neverLessThanNothing() {
        Silkloft loft = Lofts.packed("mmmr");
        loft.hire(0, 1, 49);
        loft.hire(1, 1, 51);
        loft.hire(2, 1, 12);
        loft.hire(3, 1, 0);
        Due.is("damaged, 49", loft.back(0, false, true), 0);
        Due.is("damaged, 51", loft.back(1, false, true), 1);
        loft.goOn(4);
        Due.is("late, 12", loft.back(2, false, false), 0);
        Due.is("late, 0", loft.back(3, false, true), 0);
        Due.is("kept", loft.kept(), 49 + 50 + 12);
    }

    private static void damageIsFound() {
        Silkloft loft = Lofts.packed("mrm");
        loft.hire(0, 1, 0);
        loft.hire(1, 1, 0);
        loft.back(0, false, true);
        Due.is("finding", loft.grounds(0), 1);
        Due.is("grounded", loft.isGrounded(0), true);
        Due.is("packed", loft.stateOf(0), 'k');
        loft.back(1, true, true);
        Due.is("second finding", loft.grounds(1), 1);
        Due.is("open", loft.stateOf(1), 'o');
        Due.is("the other", loft.isGrounded(2), false);
        Due.is("it has a packing", loft.tellCause(1, 'h'), '-');
        Due.is("by its hook", loft.grounds(1), 3);
    }

    private static void damageWithoutRoomForItsFinding() {
        Silkloft loft = Lofts.packed("mr");
        loft.hire(0, 1, 70);
        loft.hire(1, 1, 70);
        for (int i = 0; i < 11; i++) {
            loft.find(1);
        }
        loft.back(0, false, true);
        Due.is("the twelfth", loft.grounds(11), 1);
        Due.is("damaged", loft.back(1, false, true), 20);
        Due.is("state", loft.stateOf(1), 'k');
        Due.fails("none more", Lofts.INDEX, () -> loft.grounds(12));
        Due.is("kept", loft.kept(), 100);
    }

    private static void depositsAddUp() {
        Silkloft loft = Lofts.packed("mrm");
        loft.hire(0, 1, 999);
        Due.is("one", loft.held(), 999);
        loft.hire(1, 1, 500);
        loft.hire(2, 1, 1);
        Due.is("three", loft.held(), 1500);
        loft.goOn(3);
        Due.is("days change nothing", loft.held(), 1500);
        loft.back(1, true, true);
        Due.is("two", loft.held(), 1000);
        Due.is("kept", loft.kept(), 60);
        loft.back(0, false, false);
        loft.back(2, false, false);
        Due.is("none", loft.held(), 0);
        Due.is("kept then", loft.kept(), 71);
        loft.hire(0, 1, 7);
        Due.is("hired again", loft.held(), 7);
        Due.is("kept as before", loft.kept(), 71);
    }
}
