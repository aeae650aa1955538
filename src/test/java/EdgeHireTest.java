/** The boundary cases of hire and deposits: the promises 21, 22, 31 and 32, a test each. */
public final class EdgeHireTest {
    public static void main(String[] args) {
        hireOfCanopiesThatThereAre();
        daysFrom1To30();
        depositFrom0To999();
        onlyPackedOnesAreHired();
        groundedOnesAreNotHired();
        mainIsHiredToTheEndOfItsLife();
        reserveIsHiredToTheEndOfItsPeriod();
        dayOfComingBack();
        dayOfComingBackBehindTheLastDay();
        backOfCanopiesThatThereAre();
        onlyHiredOnesComeBack();
        openIfItWasUsed();
        packedAsBeforeOtherwise();
        unfitOnesComeBack();
        nothingLessBeforeItsDay();
        nothingLessOnItsDay();
        fiveLessForEachDayLate();
        fiftyLessIfDamaged();
        bothLess();
        zeroAtLeastIfLate();
        zeroAtLeastIfDamaged();
        zeroOfNoDeposit();
        veryLate();
        damageIsFoundIfThereAreLessThan12();
        damageIsNotFoundIfThereAre12();
        noDamageNoFinding();
        nothingIsHeldAtFirst();
        heldOfOneToAll();
        heldOnlyOnHire();
        nothingIsKeptAtFirst();
        keptIsWhatWasNotPaid();
        keptIsNeverMoreThanTheDeposit();
        eachHireHasItsOwnDeposit();
        Due.end();
    }

    /** A packed canopy 0 on hire for 10 days, with this deposit. */
    private static Silkloft onHire(int deposit) {
        Silkloft loft = Lofts.packed("m");
        loft.hire(0, 10, deposit);
        return loft;
    }

    /** What is paid back of a deposit, so many days behind the beginning of ten. */
    private static int paid(int deposit, int days, boolean isDamaged) {
        Silkloft loft = onHire(deposit);
        if (days > 0) {
            Lofts.goOn(loft, days);
        }
        int paid = loft.back(0, false, isDamaged);
        Due.is("kept is the rest", loft.kept(), deposit - paid);
        Due.is("nothing is held then", loft.held(), 0);
        return paid;
    }

    /** "if there is no such canopy", of hire. */
    private static void hireOfCanopiesThatThereAre() {
        Silkloft none = new Silkloft();
        Due.failsForEach("hire of none", Lofts.INDEX, i -> none.hire(i, 1, 1), Lofts.noneOf(0));
        Silkloft loft = Lofts.packed("mr");
        Due.failsForEach("hire", Lofts.INDEX, i -> loft.hire(i, 1, 1), Lofts.noneOf(2));
        Due.is("nothing is held", loft.held(), 0);
        Due.is("the last", loft.hire(1, 1, 1), 1);
        Due.is("the first", loft.hire(0, 1, 1), 1);
    }

    /** "days: for how many days, 1 to 30". */
    private static void daysFrom1To30() {
        Silkloft loft = Lofts.packed("mr");
        Due.failsForEach("days", Lofts.ARGUMENT, i -> loft.hire(0, i, 1), Lofts.outside(1, 30));
        Due.is("1 day", loft.hire(0, 1, 1), 1);
        Due.is("30 days", loft.hire(1, 30, 1), 30);
    }

    /** "deposit: the deposit, 0 to 999". */
    private static void depositFrom0To999() {
        Silkloft loft = Lofts.packed("mr");
        Due.failsForEach("deposit", Lofts.ARGUMENT, i -> loft.hire(0, 1, i),
                Lofts.outside(0, 999));
        Due.is("it is still packed", loft.stateOf(0), 'k');
        Due.is("nothing is held", loft.held(), 0);
        loft.hire(0, 1, 0);
        Due.is("0 is held", loft.held(), 0);
        loft.hire(1, 1, 999);
        Due.is("999 is held", loft.held(), 999);
    }

    /** "if it is not packed", of hire. */
    private static void onlyPackedOnesAreHired() {
        for (char kind : "mr".toCharArray()) {
            for (char state : "opah".toCharArray()) {
                Silkloft loft = Lofts.inState(kind, state);
                Due.fails("hire in state " + state, Lofts.UNSUPPORTED,
                        () -> loft.hire(0, 1, 500));
                Due.is("its state stays", loft.stateOf(0), state);
                Due.is("held", loft.held(), state == 'h' ? 100 : 0);
            }
            Silkloft packed = Lofts.inState(kind, 'k');
            Due.is("hire in state k", packed.hire(0, 1, 500), 1);
            Due.is("it is on hire then", packed.stateOf(0), 'h');
        }
    }

    /** "grounded", of hire. */
    private static void groundedOnesAreNotHired() {
        Silkloft loft = Lofts.packed("mr");
        loft.find(0);
        Due.fails("grounded", Lofts.UNSUPPORTED, () -> loft.hire(0, 1, 1));
        Due.is("the other", loft.hire(1, 1, 1), 1);
        loft.close(0);
        Due.is("no more grounded", loft.hire(0, 1, 1), 1);
    }

    /** "or out of date", of hire. */
    private static void mainIsHiredToTheEndOfItsLife() {
        Silkloft loft = Lofts.inState('m', 'k', 20);
        loft.goOn(20);
        Due.is("on the last day, for days behind it", loft.hire(0, 30, 1), 50);
        loft.back(0, false, false);
        loft.goOn(1);
        Due.fails("a day behind it", Lofts.UNSUPPORTED, () -> loft.hire(0, 1, 1));
    }

    private static void reserveIsHiredToTheEndOfItsPeriod() {
        Silkloft loft = Lofts.packed("r");
        loft.goOn(180);
        Due.is("on the last day, for days behind it", loft.hire(0, 30, 1), 210);
        loft.back(0, false, false);
        loft.goOn(1);
        Due.fails("a day behind it", Lofts.UNSUPPORTED, () -> loft.hire(0, 1, 1));
    }

    /** "Returns the day on which it is to come back." */
    private static void dayOfComingBack() {
        Silkloft loft = Lofts.packed("m");
        for (int days = 1; days <= 30; days++) {
            Due.is("on the day 0", loft.hire(0, days, 0), days);
            loft.back(0, false, false);
        }
        loft.goOn(7);
        Due.is("on the day 7", loft.hire(0, 30, 0), 37);
    }

    private static void dayOfComingBackBehindTheLastDay() {
        Silkloft loft = Lofts.packed("m");
        Lofts.goOn(loft, 9999);
        Due.is("on the day 9999", loft.hire(0, 30, 5), 10029);
        Due.is("it comes back early", loft.back(0, false, false), 5);
    }

    /** "if there is no such canopy", of back. */
    private static void backOfCanopiesThatThereAre() {
        Silkloft none = new Silkloft();
        Due.failsForEach("back of none", Lofts.INDEX, i -> none.back(i, true, true),
                Lofts.noneOf(0));
        Silkloft loft = Lofts.packed("mr");
        loft.hire(0, 1, 3);
        loft.hire(1, 1, 4);
        Due.failsForEach("back", Lofts.INDEX, i -> loft.back(i, true, true), Lofts.noneOf(2));
        Due.is("the last", loft.back(1, true, false), 4);
        Due.is("the first", loft.back(0, true, false), 3);
    }

    /** "if it is not on hire". */
    private static void onlyHiredOnesComeBack() {
        for (char state : "opka".toCharArray()) {
            Silkloft loft = Lofts.inState('r', state);
            Due.fails("back in state " + state, Lofts.UNSUPPORTED,
                    () -> loft.back(0, true, true));
            Due.is("its state stays", loft.stateOf(0), state);
            Due.fails("no finding", Lofts.INDEX, () -> loft.grounds(0));
        }
        Silkloft twice = onHire(60);
        twice.back(0, false, false);
        Due.fails("back twice", Lofts.UNSUPPORTED, () -> twice.back(0, false, true));
        Due.is("nothing is kept", twice.kept(), 0);
    }

    /** "it is open if it was used", damaged or not. */
    private static void openIfItWasUsed() {
        for (char kind : "mr".toCharArray()) {
            Silkloft good = Lofts.inState(kind, 'h');
            good.back(0, true, false);
            Due.is("used", good.stateOf(0), 'o');
            Silkloft damaged = Lofts.inState(kind, 'h');
            damaged.back(0, true, true);
            Due.is("used and damaged", damaged.stateOf(0), 'o');
        }
    }

    /** "otherwise packed as before", damaged or not. */
    private static void packedAsBeforeOtherwise() {
        for (char kind : "mr".toCharArray()) {
            Silkloft good = Lofts.inState(kind, 'h');
            good.goOn(3);
            good.back(0, false, false);
            Due.is("not used", good.stateOf(0), 'k');
            Due.is("its packings", good.packings(0), 1);
            Due.is("day of its packing", good.packingOf(0, 0, 'd'), 0);
            Silkloft damaged = Lofts.inState(kind, 'h');
            damaged.back(0, false, true);
            Due.is("not used, but damaged", damaged.stateOf(0), 'k');
        }
    }

    private static void unfitOnesComeBack() {
        Silkloft loft = Lofts.inState('r', 'h', 15);
        loft.find(0);
        loft.goOn(30);
        Due.is("out of date", loft.isOut(0), true);
        Due.is("grounded and out of date, on its day", loft.back(0, false, false), 100);
    }

    private static void nothingLessBeforeItsDay() {
        Due.is("on the day of hire", paid(999, 0, false), 999);
        Due.is("a day early", paid(999, 9, false), 999);
    }

    /** "less 5 for each day that it is late": on its day it is not late. */
    private static void nothingLessOnItsDay() {
        Due.is("on its day", paid(999, 10, false), 999);
    }

    private static void fiveLessForEachDayLate() {
        Due.is("a day late", paid(999, 11, false), 994);
        Due.is("two days late", paid(999, 12, false), 989);
        Due.is("a hundred days late", paid(999, 110, false), 499);
    }

    /** "and less 50 if it is damaged". */
    private static void fiftyLessIfDamaged() {
        Due.is("damaged, early", paid(999, 0, true), 949);
        Due.is("damaged, on its day", paid(999, 10, true), 949);
    }

    private static void bothLess() {
        Due.is("a day late and damaged", paid(999, 11, true), 944);
        Due.is("ten days late and damaged", paid(999, 20, true), 899);
    }

    /** "0 at least". */
    private static void zeroAtLeastIfLate() {
        Due.is("15 and two days late", paid(15, 12, false), 5);
        Due.is("15 and three days late", paid(15, 13, false), 0);
        Due.is("15 and four days late", paid(15, 14, false), 0);
        Due.is("14 and three days late", paid(14, 13, false), 0);
        Due.is("16 and three days late", paid(16, 13, false), 1);
    }

    private static void zeroAtLeastIfDamaged() {
        Due.is("51 and damaged", paid(51, 0, true), 1);
        Due.is("50 and damaged", paid(50, 0, true), 0);
        Due.is("49 and damaged", paid(49, 0, true), 0);
        Due.is("56, a day late and damaged", paid(56, 11, true), 1);
        Due.is("55, a day late and damaged", paid(55, 11, true), 0);
        Due.is("54, a day late and damaged", paid(54, 11, true), 0);
    }

    private static void zeroOfNoDeposit() {
        Due.is("0, early", paid(0, 0, false), 0);
        Due.is("0, late", paid(0, 11, false), 0);
        Due.is("0, damaged", paid(0, 0, true), 0);
    }

    private static void veryLate() {
        Due.is("999 and 199 days late", paid(999, 209, false), 4);
        Due.is("999 and 200 days late", paid(999, 210, false), 0);
        Due.is("999 and 9989 days late", paid(999, 9999, true), 0);
    }

    /** "one that is damaged has a finding, likewise": if there are less than 12. */
    private static void damageIsFoundIfThereAreLessThan12() {
        Silkloft loft = Lofts.packed("mr");
        loft.hire(0, 1, 100);
        for (int i = 0; i < 11; i++) {
            loft.find(1);
        }
        Due.is("damaged", loft.back(0, false, true), 50);
        Due.is("the twelfth finding", loft.grounds(11), 1);
        Due.is("it is of the canopy", loft.isGrounded(0), true);
        Due.is("it begins as level 0", loft.widen(11), 1);
        Due.is("it has its packing", loft.tellCause(11, 'h'), '-');
    }

    private static void damageIsNotFoundIfThereAre12() {
        Silkloft loft = Lofts.packed("mr");
        loft.hire(0, 1, 100);
        for (int i = 0; i < 12; i++) {
            loft.find(1);
        }
        Due.is("damaged", loft.back(0, true, true), 50);
        Due.is("it is open", loft.stateOf(0), 'o');
        Due.is("it is not grounded", loft.isGrounded(0), false);
        Due.fails("no finding more", Lofts.INDEX, () -> loft.grounds(12));
        Due.is("it is kept all the same", loft.kept(), 50);
    }

    private static void noDamageNoFinding() {
        Silkloft loft = onHire(100);
        loft.goOn(20);
        loft.back(0, true, false);
        Due.fails("used and late", Lofts.INDEX, () -> loft.grounds(0));
        Due.is("not grounded", loft.isGrounded(0), false);
        Due.is("the next finding is the first", loft.find(0), 0);
    }

    private static void nothingIsHeldAtFirst() {
        Due.is("new", new Silkloft().held(), 0);
        Due.is("packed", Lofts.packed("mr").held(), 0);
    }

    /** "Returns the sum over canopies on hire." */
    private static void heldOfOneToAll() {
        Silkloft loft = Lofts.packed("mrmrmrmrmrmrmrmrmrmrmrmr");
        for (int i = 0; i < 24; i++) {
            loft.hire(i, 1, 999);
            Due.is("held", loft.held(), 999L * (i + 1));
        }
        for (int i = 0; i < 24; i++) {
            loft.back(i, true, false);
            Due.is("held still", loft.held(), 999L * (23 - i));
        }
    }

    private static void heldOnlyOnHire() {
        Silkloft loft = onHire(100);
        loft.goOn(500);
        Due.is("late, all is held", loft.held(), 100);
        loft.back(0, false, true);
        Due.is("back", loft.held(), 0);
        Due.is("kept", loft.kept(), 100);
    }

    private static void nothingIsKeptAtFirst() {
        Due.is("new", new Silkloft().kept(), 0);
        Due.is("on hire", onHire(999).kept(), 0);
    }

    /** "Returns the sum of what was not paid back." */
    private static void keptIsWhatWasNotPaid() {
        Silkloft loft = Lofts.packed("mrm");
        loft.hire(0, 1, 100);
        loft.hire(1, 1, 100);
        loft.hire(2, 1, 100);
        loft.back(0, false, false);
        Due.is("paid back whole", loft.kept(), 0);
        loft.back(1, false, true);
        Due.is("damage", loft.kept(), 50);
        loft.goOn(3);
        loft.back(2, false, false);
        Due.is("damage and two days", loft.kept(), 60);
    }

    private static void keptIsNeverMoreThanTheDeposit() {
        Silkloft loft = Lofts.packed("mr");
        loft.hire(0, 1, 3);
        loft.hire(1, 1, 0);
        loft.goOn(900);
        loft.back(0, false, true);
        Due.is("three of three", loft.kept(), 3);
        loft.back(1, false, true);
        Due.is("nothing of nothing", loft.kept(), 3);
    }

    private static void eachHireHasItsOwnDeposit() {
        Silkloft loft = onHire(100);
        loft.goOn(11);
        Due.is("the first, a day late", loft.back(0, false, false), 95);
        loft.hire(0, 1, 40);
        Due.is("held of the second", loft.held(), 40);
        loft.goOn(2);
        Due.is("the second, a day late", loft.back(0, false, false), 35);
        Due.is("kept of both", loft.kept(), 10);
    }
}
