import java.util.NoSuchElementException;

/** The boundary cases of the promises 30 and 33 to 35, and of the 512 calls, a test each. */
public final class EdgeSurveyTest {
    private static final Class<NoSuchElementException> NONE = NoSuchElementException.class;
    private static final Class<ArithmeticException> NO_SHARE = ArithmeticException.class;

    public static void main(String[] args) {
        noNextInANewLoft();
        noNextOfMainsAlone();
        noNextOfReservesNotPacked();
        noNextOfReservesOutOfDate();
        nextOnTheLastDayOfThePeriod();
        nextOnTheLastDayOfItsLife();
        nextIsThatWithTheFewestDaysLeft();
        nextOfSeveralIsTheLowest();
        nextGoesByThePeriodNotByLife();
        nextLooksAtGroundedOnes();
        nextIsTheLastOf24();
        nextByTheLatestPacking();
        noShareOfNone();
        shareOfOne();
        shareFromNoneToAll();
        shareLeavesOutFreeOnes();
        noMeanOfNone();
        meanOfOne();
        meanOfThirds();
        meanBehindABadDrop();
        newLoftIsSound();
        soundInEachState();
        soundBehindRefusals();
        soundWhenNothingWouldBeAllowedAnyMore();
        soundAsTheLastOf512Calls();
        all512CallsAreActs();
        Due.end();
    }

    /** "Throws NoSuchElementException if there is none". */
    private static void noNextInANewLoft() {
        Silkloft loft = new Silkloft();
        Due.fails("new", NONE, () -> loft.next());
        Silkloft staffed = Lofts.staffed();
        Due.fails("without canopies", NONE, () -> staffed.next());
    }

    private static void noNextOfMainsAlone() {
        Silkloft loft = Lofts.packed("mmm");
        Due.fails("mains", NONE, () -> loft.next());
    }

    /** "of the reserves that are packed": not those aboard or on hire. */
    private static void noNextOfReservesNotPacked() {
        for (char state : "opah".toCharArray()) {
            Silkloft loft = Lofts.inState('r', state);
            Due.fails("reserve in state " + state, NONE, () -> loft.next());
        }
        Due.is("reserve in state k", Lofts.inState('r', 'k').next(), 0);
    }

    /** "and not out of date": by its life or by the period. */
    private static void noNextOfReservesOutOfDate() {
        Silkloft life = Lofts.inState('r', 'k', 5);
        life.goOn(6);
        Due.fails("behind its life", NONE, () -> life.next());
        Silkloft period = Lofts.packed("r");
        period.goOn(181);
        Due.fails("behind the period", NONE, () -> period.next());
        period.setPeriod(181);
        Due.is("in a longer period", period.next(), 0);
    }

    private static void nextOnTheLastDayOfThePeriod() {
        Silkloft loft = Lofts.packed("rr");
        loft.goOn(1);
        Lofts.dropAndPack(loft, 0, true);
        loft.goOn(179);
        Due.is("no day left", loft.next(), 1);
        loft.goOn(1);
        Due.is("the other, no day left", loft.next(), 0);
        loft.goOn(1);
        Due.fails("all behind the period", NONE, () -> loft.next());
    }

    private static void nextOnTheLastDayOfItsLife() {
        Silkloft loft = Lofts.inState('r', 'k', 5);
        loft.goOn(5);
        Due.is("as old as its life", loft.next(), 0);
        loft.goOn(1);
        Due.fails("older", NONE, () -> loft.next());
    }

    /** "the one with the fewest days left of the period". */
    private static void nextIsThatWithTheFewestDaysLeft() {
        Silkloft loft = Lofts.with("rrr");
        Lofts.pack(loft, 1);
        loft.goOn(1);
        Lofts.pack(loft, 2);
        loft.goOn(1);
        Lofts.pack(loft, 0);
        Due.is("packed first", loft.next(), 1);
        loft.drop(1, true);
        Due.is("packed second", loft.next(), 2);
        loft.drop(2, true);
        Due.is("packed last", loft.next(), 0);
        loft.drop(0, true);
        Due.fails("none left", NONE, () -> loft.next());
    }

    /** "of several the lowest number". */
    private static void nextOfSeveralIsTheLowest() {
        Silkloft loft = Lofts.with("mrrr");
        Lofts.pack(loft, 3);
        Lofts.pack(loft, 1);
        Lofts.pack(loft, 2);
        Due.is("of three", loft.next(), 1);
        loft.drop(1, true);
        Due.is("of two", loft.next(), 2);
        loft.drop(2, true);
        Due.is("of one", loft.next(), 3);
    }

    private static void nextGoesByThePeriodNotByLife() {
        Silkloft loft = Lofts.staffed();
        loft.addCanopy('r', 0, 0, 9999);
        loft.addCanopy('r', 0, 0, 10);
        Lofts.pack(loft, 0);
        loft.goOn(1);
        Lofts.pack(loft, 1);
        Due.is("that with the longer life", loft.next(), 0);
    }

    /** "grounded or not". */
    private static void nextLooksAtGroundedOnes() {
        Silkloft loft = Lofts.with("rr");
        Lofts.pack(loft, 1);
        loft.goOn(1);
        Lofts.pack(loft, 0);
        loft.find(1);
        Due.is("grounded", loft.next(), 1);
        loft.find(0);
        Due.is("both grounded", loft.next(), 1);
    }

    private static void nextIsTheLastOf24() {
        Silkloft loft = Lofts.with("rrrrrrrrrrrrrrrrrrrrrrrr");
        Lofts.pack(loft, 23);
        Due.is("alone", loft.next(), 23);
        loft.goOn(1);
        Lofts.pack(loft, 0);
        Due.is("packed before the first", loft.next(), 23);
    }

    private static void nextByTheLatestPacking() {
        Silkloft loft = Lofts.packed("rr");
        loft.goOn(1);
        Lofts.dropAndPack(loft, 0, true);
        Due.is("the one not packed again", loft.next(), 1);
    }

    /** "Throws ArithmeticException if there are none", of groundedShare. */
    private static void noShareOfNone() {
        Silkloft loft = Lofts.staffed();
        Due.fails("no canopies", NO_SHARE, () -> loft.groundedShare());
        loft.addCanopy('m', 0, 0, 1);
        Due.is("one canopy", loft.groundedShare(), 0f);
    }

    private static void shareOfOne() {
        Silkloft loft = Lofts.with("m");
        Due.is("none of one", loft.groundedShare(), 0f);
        loft.find(0);
        Due.is("one of one", loft.groundedShare(), 1f);
        loft.close(0);
        Due.is("none of one again", loft.groundedShare(), 0f);
    }

    /** "Returns their number divided by that of all, both converted to float." */
    private static void shareFromNoneToAll() {
        for (int all = 1; all <= 24; all++) {
            Silkloft loft = Lofts.staffed();
            for (int i = 0; i < all; i++) {
                loft.addCanopy('m', i % 10, i % 10, 9);
            }
            for (int i = 0; i <= Math.min(all, 12); i++) {
                Due.is(i + " of " + all, loft.groundedShare(), (float) i / (float) all);
                if (i < Math.min(all, 12)) {
                    loft.find(i);
                }
            }
        }
        Silkloft lines = Lofts.staffed();
        for (int i = 0; i < 24; i++) {
            lines.addCanopy('r', 0, 5, 9);
        }
        lines.find(7);
        lines.widen(0);
        Due.is("24 of 24", lines.groundedShare(), 1f);
    }

    private static void shareLeavesOutFreeOnes() {
        Silkloft loft = Lofts.packed("mrm");
        loft.find(0);
        loft.tellCause(0, 'h');
        Due.is("three of three", loft.groundedShare(), 1f);
        Lofts.dropAndPack(loft, 1, true);
        loft.drop(1, true);
        Due.is("two of three", loft.groundedShare(), 2f / 3f);
    }

    /** "Throws ArithmeticException if there are none", of meanDrops. */
    private static void noMeanOfNone() {
        Silkloft loft = Lofts.staffed();
        Due.fails("no canopies", NO_SHARE, () -> loft.meanDrops());
        loft.addCanopy('m', 0, 0, 1);
        Due.is("one canopy", loft.meanDrops(), 0.0);
    }

    private static void meanOfOne() {
        Silkloft loft = Lofts.packed("m");
        for (int i = 1; i <= 5; i++) {
            Lofts.dropAndPack(loft, 0, true);
            Due.is("mean of one", loft.meanDrops(), (double) i);
        }
    }

    /** "Returns their sum divided by the number of canopies, both converted to double." */
    private static void meanOfThirds() {
        Silkloft loft = Lofts.packed("mrm");
        for (int i = 1; i <= 10; i++) {
            Lofts.dropAndPack(loft, i % 3, true);
            Due.is("mean of three", loft.meanDrops(), (double) i / 3.0);
        }
        Silkloft all = Lofts.with("mrmrmrmrmrmrmrmrmrmrmrmr");
        Lofts.pack(all, 23);
        all.drop(23, true);
        Due.is("mean of 24", all.meanDrops(), 1.0 / 24.0);
    }

    private static void meanBehindABadDrop() {
        Silkloft loft = Lofts.packed("mr");
        Lofts.dropAndPack(loft, 0, true);
        Lofts.dropAndPack(loft, 0, true);
        loft.drop(1, true);
        Due.is("two and one", loft.meanDrops(), 1.5);
        loft.drop(0, false);
        Due.is("none and one", loft.meanDrops(), 0.5);
    }

    private static void newLoftIsSound() {
        Silkloft loft = new Silkloft();
        Due.is("new", loft.isSound(), true);
        Due.is("once more", loft.isSound(), true);
        Due.is("first act", loft.addCanopy('m', 0, 0, 1), 0);
        Due.is("then", loft.isSound(), true);
    }

    private static void soundInEachState() {
        for (char kind : "mr".toCharArray()) {
            for (char state : "opkah".toCharArray()) {
                Silkloft loft = Lofts.inState(kind, state);
                Due.is("state " + state, loft.isSound(), true);
                loft.goOn(500);
                loft.find(0);
                loft.widen(0);
                Due.is("grounded and out of date", loft.isSound(), true);
                Due.is("its state stays", loft.stateOf(0), state);
            }
        }
    }

    /** An act that was refused is none of the acts that are done again. */
    private static void soundBehindRefusals() {
        Silkloft loft = Lofts.inState('m', 'h');
        Due.fails("hang", Lofts.UNSUPPORTED, () -> loft.hang(0, 0));
        Due.fails("step", Lofts.UNSUPPORTED, () -> loft.step(0, 0));
        Due.fails("hire", Lofts.UNSUPPORTED, () -> loft.hire(0, 1, 1));
        Due.fails("goOn", Lofts.ARGUMENT, () -> loft.goOn(0));
        Due.fails("jump", Lofts.INDEX, () -> loft.jump(0, 0));
        Due.fails("find", Lofts.INDEX, () -> loft.find(9));
        Due.is("sound", loft.isSound(), true);
        Due.is("and as it was", loft.back(0, false, false), 100);
    }

    /** "by one who might then", "neither grounded nor out of date then": not now. */
    private static void soundWhenNothingWouldBeAllowedAnyMore() {
        Silkloft loft = new Silkloft();
        loft.addRigger(31, 0);
        loft.addRigger(31, 0);
        loft.addCanopy('m', 0, 0, 1);
        loft.addCanopy('r', 0, 0, 1);
        Lofts.pack(loft, 0);
        Lofts.pack(loft, 1);
        loft.load();
        loft.board(0, 0, 1);
        loft.jump(0, 0);
        loft.goOn(999);
        loft.setPeriod(1);
        loft.setLicences(0, 0, 0);
        loft.setLicences(1, 0, 0);
        loft.find(0);
        loft.tellCause(0, 'c');
        Due.is("all are grounded", loft.groundedShare(), 1f);
        Due.is("sound all the same", loft.isSound(), true);
    }

    /** "An object is used for at most 512 calls". */
    private static void soundAsTheLastOf512Calls() {
        Silkloft loft = new Silkloft();
        for (int i = 1; i <= 511; i++) {
            loft.setPeriod(i);
        }
        Due.is("call 512", loft.isSound(), true);
    }

    private static void all512CallsAreActs() {
        Silkloft loft = new Silkloft();
        int before = 180;
        for (int i = 1; i <= 512; i++) {
            Due.is("call " + i, loft.setPeriod(i), before);
            before = i;
        }
    }
}
