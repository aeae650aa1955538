/** The boundary cases of being out of date, and of the promise 25, a test each. */
public final class EdgeDatesTest {
    private static final String STATES = "opkah";

    public static void main(String[] args) {
        askedOfCanopiesThatThereAre();
        lifeOfMainsInEachState();
        lifeOfReservesInEachState();
        lifeIsFromTheDayOfAdding();
        lifeIsNotBegunAnewByPacking();
        periodOfReservesInEachState();
        mainsHaveNoPeriod();
        periodIsFromTheLastStep();
        periodBeginsAnewByPacking();
        periodGoesOnBehindLeaving();
        periodGoesOnForOneNotNeeded();
        periodGoesOnBehindHire();
        usedReserveHasNoPeriod();
        noPeriodWhileBeingPackedAgain();
        shortestPeriod();
        longestPeriod();
        periodSetLaterCounts();
        Due.end();
    }

    /** "Throws IndexOutOfBoundsException if there is no such canopy". */
    private static void askedOfCanopiesThatThereAre() {
        Silkloft none = new Silkloft();
        Due.failsForEach("isOut of none", Lofts.INDEX, i -> none.isOut(i), Lofts.noneOf(0));
        Silkloft loft = Lofts.with("mr");
        Due.failsForEach("isOut", Lofts.INDEX, i -> loft.isOut(i), Lofts.noneOf(2));
        Due.is("first", loft.isOut(0), false);
        Due.is("last", loft.isOut(1), false);
    }

    /** "out of date on a day on which it is older than its life". */
    private static void lifeOfMainsInEachState() {
        for (char state : STATES.toCharArray()) {
            Silkloft loft = Lofts.inState('m', state, 50);
            loft.goOn(50);
            Due.is("as old as its life, " + state, loft.isOut(0), false);
            loft.goOn(1);
            Due.is("a day older, " + state, loft.isOut(0), true);
            Due.is("its state stays", loft.stateOf(0), state);
        }
    }

    private static void lifeOfReservesInEachState() {
        for (char state : STATES.toCharArray()) {
            Silkloft loft = Lofts.inState('r', state, 50);
            loft.goOn(50);
            Due.is("reserve as old as its life, " + state, loft.isOut(0), false);
            loft.goOn(1);
            Due.is("a day older, " + state, loft.isOut(0), true);
        }
    }

    /** "a life in days from the one on which it is added". */
    private static void lifeIsFromTheDayOfAdding() {
        Silkloft loft = Lofts.staffed();
        loft.goOn(100);
        loft.addCanopy('m', 0, 0, 3);
        Due.is("on its first day", loft.isOut(0), false);
        loft.goOn(3);
        Due.is("three days old", loft.isOut(0), false);
        loft.goOn(1);
        Due.is("four days old", loft.isOut(0), true);
    }

    private static void lifeIsNotBegunAnewByPacking() {
        Silkloft loft = Lofts.staffed();
        loft.addCanopy('m', 0, 0, 3);
        loft.goOn(2);
        loft.repair(0, 0);
        Lofts.pack(loft, 0);
        Lofts.dropAndPack(loft, 0, true);
        loft.goOn(1);
        Due.is("three days old", loft.isOut(0), false);
        loft.goOn(1);
        Due.is("four days old", loft.isOut(0), true);
    }

    /** "a reserve that is packed, aboard or on hire also when more days than the period". */
    private static void periodOfReservesInEachState() {
        for (char state : STATES.toCharArray()) {
            Silkloft loft = Lofts.inState('r', state);
            loft.setPeriod(40);
            loft.goOn(40);
            Due.is("on the last day of the period, " + state, loft.isOut(0), false);
            loft.goOn(1);
            boolean isDue = state == 'k' || state == 'a' || state == 'h';
            Due.is("a day behind it, " + state, loft.isOut(0), isDue);
        }
    }

    private static void mainsHaveNoPeriod() {
        for (char state : STATES.toCharArray()) {
            Silkloft loft = Lofts.inState('m', state);
            loft.setPeriod(1);
            loft.goOn(999);
            Due.is("main, " + state, loft.isOut(0), false);
        }
    }

    /** "since it was packed": since the day of the step 4, with which it is packed. */
    private static void periodIsFromTheLastStep() {
        Silkloft loft = Lofts.with("r");
        loft.setPeriod(10);
        loft.hang(0, 0);
        for (int i = 0; i < 4; i++) {
            loft.goOn(5);
            loft.step(0, 0);
        }
        loft.goOn(5);
        loft.step(0, 1);
        loft.goOn(10);
        Due.is("ten days behind the last step", loft.isOut(0), false);
        loft.goOn(1);
        Due.is("eleven days behind it", loft.isOut(0), true);
    }

    private static void periodBeginsAnewByPacking() {
        Silkloft loft = Lofts.packed("r");
        loft.setPeriod(10);
        loft.goOn(11);
        Due.is("out of date", loft.isOut(0), true);
        loft.drop(0, true);
        Due.is("open", loft.isOut(0), false);
        Lofts.pack(loft, 0);
        Due.is("packed again", loft.isOut(0), false);
        loft.goOn(10);
        Due.is("on the last day", loft.isOut(0), false);
        loft.goOn(1);
        Due.is("behind it", loft.isOut(0), true);
    }

    /** "both canopies are packed as before": the period is not begun anew. */
    private static void periodGoesOnBehindLeaving() {
        Silkloft loft = Lofts.inState('r', 'a');
        loft.goOn(100);
        loft.leave(0);
        loft.goOn(80);
        Due.is("180 days behind packing", loft.isOut(0), false);
        loft.goOn(1);
        Due.is("181 days behind packing", loft.isOut(0), true);
    }

    /** "the other reserves are packed as before". */
    private static void periodGoesOnForOneNotNeeded() {
        Silkloft loft = Lofts.inState('r', 'a');
        loft.goOn(100);
        loft.jump(0, 0);
        loft.goOn(80);
        Due.is("180 days behind packing", loft.isOut(0), false);
        loft.goOn(1);
        Due.is("181 days behind packing", loft.isOut(0), true);
    }

    /** "otherwise packed as before". */
    private static void periodGoesOnBehindHire() {
        Silkloft loft = Lofts.inState('r', 'h');
        loft.goOn(100);
        loft.back(0, false, false);
        loft.goOn(80);
        Due.is("180 days behind packing", loft.isOut(0), false);
        loft.goOn(1);
        Due.is("181 days behind packing", loft.isOut(0), true);
    }

    private static void usedReserveHasNoPeriod() {
        Silkloft jumped = Lofts.inState('r', 'a');
        jumped.goOn(180);
        jumped.jump(0, 1);
        jumped.goOn(1);
        Due.is("open by a jump", jumped.isOut(0), false);
        Silkloft hired = Lofts.inState('r', 'h');
        hired.goOn(181);
        Due.is("on hire", hired.isOut(0), true);
        hired.back(0, true, false);
        Due.is("open by use", hired.isOut(0), false);
    }

    private static void noPeriodWhileBeingPackedAgain() {
        Silkloft loft = Lofts.packed("r");
        loft.drop(0, true);
        loft.goOn(500);
        Due.is("open", loft.isOut(0), false);
        Lofts.pack(loft, 0, 0, 0, 0, 0, 0);
        Due.is("four steps", loft.isOut(0), false);
        loft.step(0, 1);
        Due.is("packed again", loft.isOut(0), false);
    }

    private static void shortestPeriod() {
        Silkloft loft = Lofts.packed("r");
        loft.setPeriod(1);
        Due.is("on the day of packing", loft.isOut(0), false);
        loft.goOn(1);
        Due.is("on the day behind it", loft.isOut(0), false);
        loft.goOn(1);
        Due.is("two days behind it", loft.isOut(0), true);
    }

    private static void longestPeriod() {
        Silkloft loft = Lofts.packed("r");
        loft.setPeriod(999);
        loft.goOn(999);
        Due.is("999 days behind packing", loft.isOut(0), false);
        loft.goOn(1);
        Due.is("1000 days behind packing", loft.isOut(0), true);
    }

    /** The period is that of the day, not that of the packing. */
    private static void periodSetLaterCounts() {
        Silkloft loft = Lofts.packed("r");
        loft.goOn(181);
        Due.is("by the period 180", loft.isOut(0), true);
        loft.setPeriod(181);
        Due.is("by the period 181", loft.isOut(0), false);
        loft.setPeriod(180);
        Due.is("by the period 180 again", loft.isOut(0), true);
    }
}
