/** The boundary cases of findings, and of the promises 14 to 18 and 24, a test each. */
public final class EdgeFindingTest {
    public static void main(String[] args) {
        atMost12Findings();
        closedFindingsCount();
        findingsOfCanopiesThatThereAre();
        findingsInEachState();
        findingsOfOneThatIsGrounded();
        wideningFindingsThatThereAre();
        levelsFrom0To4();
        closedOnesAreNotWidened();
        toldOnesAreNotWidened();
        causesOfFindingsThatThereAre();
        causesAreFive();
        causeBeforeOrNone();
        closedOnesAreNotTold();
        toldWithoutPacking();
        packingThatCameLaterIsNoneOfIt();
        packingUnderWayIsNoneOfIt();
        closingFindingsThatThereAre();
        closedOnce();
        closedGroundsNothing();
        groundsOfFindingsThatThereAre();
        groundsFromOneToAll();
        groundedOfCanopiesThatThereAre();
        Due.end();
    }

    /** "At most 12 are numbered from 0"; "if there are 12". */
    private static void atMost12Findings() {
        Silkloft loft = Lofts.with("mr");
        for (int i = 0; i < 12; i++) {
            Due.is("finding", loft.find(0), i);
        }
        Due.fails("finding 13", Lofts.STATE, () -> loft.find(1));
        Due.is("it grounds nothing", loft.isGrounded(1), false);
        Due.is("the last one", loft.widen(11), 1);
        Due.fails("none behind it", Lofts.INDEX, () -> loft.widen(12));
    }

    private static void closedFindingsCount() {
        Silkloft loft = Lofts.with("m");
        for (int i = 0; i < 12; i++) {
            loft.find(0);
            loft.close(i);
        }
        Due.fails("finding 13", Lofts.STATE, () -> loft.find(0));
        Due.is("not grounded", loft.isGrounded(0), false);
    }

    /** "if there is no such canopy", of find. */
    private static void findingsOfCanopiesThatThereAre() {
        Silkloft none = new Silkloft();
        Due.failsForEach("find of none", Lofts.INDEX, i -> none.find(i), Lofts.noneOf(0));
        Silkloft loft = Lofts.with("mr");
        Due.failsForEach("find", Lofts.INDEX, i -> loft.find(i), Lofts.noneOf(2));
        Due.is("of the last", loft.find(1), 0);
        Due.is("of the first", loft.find(0), 1);
    }

    private static void findingsInEachState() {
        for (char kind : "mr".toCharArray()) {
            for (char state : "opkah".toCharArray()) {
                Silkloft loft = Lofts.inState(kind, state);
                Due.is("find in state " + state, loft.find(0), 0);
                Due.is("it is grounded", loft.isGrounded(0), true);
                Due.is("its state stays", loft.stateOf(0), state);
                Due.is("the other", loft.isGrounded(1), false);
            }
        }
    }

    private static void findingsOfOneThatIsGrounded() {
        Silkloft loft = Lofts.with("mr");
        loft.find(0);
        Due.is("second of the same", loft.find(0), 1);
        loft.close(0);
        Due.is("grounded by the second", loft.isGrounded(0), true);
        loft.close(1);
        Due.is("by none", loft.isGrounded(0), false);
    }

    /** "if there is no such finding", of widen. */
    private static void wideningFindingsThatThereAre() {
        Silkloft none = Lofts.with("m");
        Due.failsForEach("widen of none", Lofts.INDEX, i -> none.widen(i), Lofts.noneOf(0));
        Silkloft loft = Lofts.with("m");
        loft.find(0);
        loft.find(0);
        Due.failsForEach("widen", Lofts.INDEX, i -> loft.widen(i), Lofts.noneOf(2));
        Due.is("the last", loft.widen(1), 1);
        Due.is("the first", loft.widen(0), 1);
    }

    /** "from the level 0, as which it begins"; "or its level is 4"; "Returns the level then". */
    private static void levelsFrom0To4() {
        Silkloft loft = Lofts.with("m");
        loft.find(0);
        for (int level = 1; level <= 4; level++) {
            Due.is("level", loft.widen(0), level);
        }
        Due.fails("level 5", Lofts.UNSUPPORTED, () -> loft.widen(0));
        Due.fails("level 5 again", Lofts.UNSUPPORTED, () -> loft.widen(0));
        loft.find(0);
        Due.is("another begins as 0", loft.widen(1), 1);
    }

    /** "if it is closed", of widen. */
    private static void closedOnesAreNotWidened() {
        Silkloft loft = Lofts.with("m");
        loft.find(0);
        loft.close(0);
        Due.fails("closed at level 0", Lofts.UNSUPPORTED, () -> loft.widen(0));
        loft.find(0);
        loft.widen(1);
        loft.close(1);
        Due.fails("closed at level 1", Lofts.UNSUPPORTED, () -> loft.widen(1));
    }

    /** "its cause was told", of widen: whatever the cause. */
    private static void toldOnesAreNotWidened() {
        Silkloft loft = Lofts.packed("m");
        String causes = "lhrcs";
        for (int i = 0; i < 5; i++) {
            int finding = loft.find(0);
            loft.tellCause(finding, causes.charAt(i));
            Due.fails("told " + causes.charAt(i), Lofts.UNSUPPORTED, () -> loft.widen(finding));
        }
    }

    /** "if there is no such finding", of tellCause. */
    private static void causesOfFindingsThatThereAre() {
        Silkloft none = Lofts.with("m");
        Due.failsForEach("tellCause of none", Lofts.INDEX, i -> none.tellCause(i, 's'),
                Lofts.noneOf(0));
        Silkloft loft = Lofts.with("m");
        loft.find(0);
        loft.find(0);
        Due.failsForEach("tellCause", Lofts.INDEX, i -> loft.tellCause(i, 's'),
                Lofts.noneOf(2));
        Due.is("the last", loft.tellCause(1, 's'), '-');
        Due.is("the first", loft.tellCause(0, 's'), '-');
    }

    /** "if there is no such cause". */
    private static void causesAreFive() {
        Silkloft loft = Lofts.packed("m");
        loft.find(0);
        Due.failsForSigns("cause", Lofts.ARGUMENT, c -> loft.tellCause(0, c),
                Lofts.signsBut("lhrcs"));
        Due.is("none was told", loft.tellCause(0, 's'), '-');
        Due.failsForSigns("cause then", Lofts.ARGUMENT, c -> loft.tellCause(0, c), '-', 'm', 'k');
        Due.is("s was told", loft.tellCause(0, 'l'), 's');
    }

    /** "Returns the cause before, or -"; "in place of one that was told". */
    private static void causeBeforeOrNone() {
        String causes = "lhrcs";
        for (int i = 0; i < 5; i++) {
            for (int j = 0; j < 5; j++) {
                Silkloft loft = Lofts.packed("m");
                loft.find(0);
                Due.is("first cause", loft.tellCause(0, causes.charAt(i)), '-');
                Due.is("second cause", loft.tellCause(0, causes.charAt(j)), causes.charAt(i));
                Due.is("third cause", loft.tellCause(0, 's'), causes.charAt(j));
            }
        }
    }

    /** "if it is closed", of tellCause. */
    private static void closedOnesAreNotTold() {
        Silkloft loft = Lofts.packed("m");
        loft.find(0);
        loft.close(0);
        for (char cause : "lhrcs".toCharArray()) {
            Due.fails("closed, " + cause, Lofts.UNSUPPORTED, () -> loft.tellCause(0, cause));
        }
        loft.find(0);
        loft.tellCause(1, 'l');
        loft.close(1);
        Due.fails("closed and told", Lofts.UNSUPPORTED, () -> loft.tellCause(1, 's'));
    }

    /** "or the cause is h or r, and it has no packing". */
    private static void toldWithoutPacking() {
        Silkloft loft = Lofts.with("mr");
        Lofts.pack(loft, 1);
        loft.find(0);
        Due.fails("h", Lofts.UNSUPPORTED, () -> loft.tellCause(0, 'h'));
        Due.fails("r", Lofts.UNSUPPORTED, () -> loft.tellCause(0, 'r'));
        Due.is("l", loft.tellCause(0, 'l'), '-');
        Due.is("c", loft.tellCause(0, 'c'), 'l');
        Due.is("s", loft.tellCause(0, 's'), 'c');
        Due.fails("h in place of another", Lofts.UNSUPPORTED, () -> loft.tellCause(0, 'h'));
        loft.find(1);
        Due.is("h of one with a packing", loft.tellCause(1, 'h'), '-');
        Due.is("r of one with a packing", loft.tellCause(1, 'r'), 'h');
    }

    /** A finding "has its latest packing", the latest when it was made. */
    private static void packingThatCameLaterIsNoneOfIt() {
        Silkloft loft = Lofts.with("mr");
        loft.find(0);
        Lofts.pack(loft, 0);
        Lofts.pack(loft, 1);
        Due.fails("h", Lofts.UNSUPPORTED, () -> loft.tellCause(0, 'h'));
        Due.fails("r", Lofts.UNSUPPORTED, () -> loft.tellCause(0, 'r'));
        loft.widen(0);
        loft.widen(0);
        loft.widen(0);
        Due.is("the level 3 goes by no packing", loft.grounds(0), 1);
    }

    private static void packingUnderWayIsNoneOfIt() {
        Silkloft loft = Lofts.with("mr");
        Lofts.pack(loft, 0, 0, 0, 0, 0, 0);
        loft.find(0);
        loft.step(0, 1);
        Due.fails("four steps when it was made", Lofts.UNSUPPORTED,
                () -> loft.tellCause(0, 'h'));
        loft.find(0);
        Due.is("five steps when it was made", loft.tellCause(1, 'h'), '-');
        Lofts.pack(loft, 1, 1, 0, 0, 0, 0);
        loft.breakOff(1);
        loft.find(1);
        Due.fails("broken off", Lofts.UNSUPPORTED, () -> loft.tellCause(2, 'r'));
    }

    /** "if there is no such finding", of close. */
    private static void closingFindingsThatThereAre() {
        Silkloft none = Lofts.with("m");
        Due.failsForEach("close of none", Lofts.INDEX, i -> none.close(i), Lofts.noneOf(0));
        Silkloft loft = Lofts.with("m");
        loft.find(0);
        loft.find(0);
        Due.failsForEach("close", Lofts.INDEX, i -> loft.close(i), Lofts.noneOf(2));
        Due.is("the last", loft.close(1), true);
        Due.is("the first", loft.close(0), true);
    }

    /** "Returns whether it was not closed before." */
    private static void closedOnce() {
        Silkloft loft = Lofts.packed("m");
        loft.find(0);
        loft.find(0);
        Due.is("for the first time", loft.close(0), true);
        Due.is("for the second time", loft.close(0), false);
        Due.is("for the third time", loft.close(0), false);
        Due.is("the other one", loft.close(1), true);
        loft.find(0);
        loft.tellCause(2, 'h');
        Due.is("one that was told", loft.close(2), true);
    }

    /** "A finding that is closed grounds nothing." */
    private static void closedGroundsNothing() {
        Silkloft loft = Lofts.packed("mr");
        loft.find(0);
        for (int i = 0; i < 4; i++) {
            loft.widen(0);
        }
        Due.is("at level 4", loft.grounds(0), 2);
        loft.close(0);
        Due.is("closed", loft.grounds(0), 0);
        Due.is("itself", loft.isGrounded(0), false);
        Due.is("the other", loft.isGrounded(1), false);
        Due.is("share", loft.groundedShare(), 0f);
        loft.find(0);
        loft.tellCause(1, 'h');
        Due.is("told", loft.grounds(1), 2);
        loft.close(1);
        Due.is("told and closed", loft.grounds(1), 0);
        Due.is("itself then", loft.isGrounded(0), false);
    }

    /** "if there is no such finding", of grounds. */
    private static void groundsOfFindingsThatThereAre() {
        Silkloft none = Lofts.with("m");
        Due.failsForEach("grounds of none", Lofts.INDEX, i -> none.grounds(i), Lofts.noneOf(0));
        Silkloft loft = Lofts.with("m");
        loft.find(0);
        loft.find(0);
        Due.failsForEach("grounds", Lofts.INDEX, i -> loft.grounds(i), Lofts.noneOf(2));
        Due.is("the last", loft.grounds(1), 1);
        Due.is("the first", loft.grounds(0), 1);
    }

    private static void groundsFromOneToAll() {
        Silkloft loft = Lofts.staffed();
        for (int i = 0; i < 24; i++) {
            loft.addCanopy('m', i < 12 ? 1 : 2, 3, 9);
        }
        loft.find(23);
        Due.is("level 0", loft.grounds(0), 1);
        loft.widen(0);
        Due.is("level 1", loft.grounds(0), 24);
        loft.tellCause(0, 'c');
        Due.is("cloth", loft.grounds(0), 12);
        loft.tellCause(0, 's');
        Due.is("nothing more", loft.grounds(0), 1);
    }

    /** "if there is no such canopy", of isGrounded. */
    private static void groundedOfCanopiesThatThereAre() {
        Silkloft none = new Silkloft();
        Due.failsForEach("isGrounded of none", Lofts.INDEX, i -> none.isGrounded(i),
                Lofts.noneOf(0));
        Silkloft loft = Lofts.with("mr");
        loft.find(1);
        Due.failsForEach("isGrounded", Lofts.INDEX, i -> loft.isGrounded(i), Lofts.noneOf(2));
        Due.is("first", loft.isGrounded(0), false);
        Due.is("last", loft.isGrounded(1), true);
    }
}
