/** Which canopies a finding grounds: the boundary cases of its levels and causes, a test each. */
public final class EdgeReachTest {
    public static void main(String[] args) {
        level0IsItselfAlone();
        level1TakesLines();
        level2TakesTheHook();
        level3TakesRiggers();
        level4TakesCloth();
        causeGroundsAloneWhateverTheLevel();
        causeTakesLevelsBack();
        itselfIsAlwaysGrounded();
        eachHook();
        hookWheneverItWas();
        hookOfTheLatestPackingAlone();
        riggersOfEachStep();
        riggerOfAnotherStep();
        eachRigger();
        riggersWheneverItWas();
        riggersOfTheLatestPackingAlone();
        packingUnderWayDoesNotGround();
        onesAddedLater();
        withoutPackingByLevels();
        findingsOfDropsAndDamageHaveTheirPacking();
        eachFindingIsItsOwn();
        reachedTwiceCountsOnce();
        Due.end();
    }

    private static void grounded(String what, Silkloft loft, String due) {
        for (int i = 0; i < due.length(); i++) {
            Due.is(what + ", canopy " + i, loft.isGrounded(i), due.charAt(i) == '1');
        }
    }

    /**
     * The canopy 0; 1 with its lines, 2 with its hook, 3 with one rigger in the same step, 4 with
     * its cloth, each with nothing else of it; and 5 with nothing.
     */
    private static Silkloft kin() {
        Silkloft loft = Lofts.staffed();
        int[] cloths = {7, 1, 2, 3, 7, 5};
        int[] lines = {7, 7, 2, 3, 4, 5};
        for (int i = 0; i < 6; i++) {
            loft.addCanopy(i % 2 == 0 ? 'm' : 'r', cloths[i], lines[i], 999);
        }
        Lofts.pack(loft, 0, 3, 0, 1, 2, 3, 4);
        Lofts.pack(loft, 1, 1, 1, 0, 1, 0, 1);
        Lofts.pack(loft, 2, 3, 1, 0, 1, 0, 1);
        Lofts.pack(loft, 3, 1, 1, 0, 2, 0, 1);
        Lofts.pack(loft, 4, 1, 1, 0, 1, 0, 1);
        Lofts.pack(loft, 5, 1, 1, 0, 1, 0, 1);
        return loft;
    }

    private static Silkloft kinAtLevel(int level) {
        Silkloft loft = kin();
        loft.find(0);
        for (int i = 0; i < level; i++) {
            loft.widen(0);
        }
        return loft;
    }

    /** "at 0, the canopy itself". */
    private static void level0IsItselfAlone() {
        grounded("level 0", kinAtLevel(0), "100000");
    }

    /** "at 1, also all with its lot of lines". */
    private static void level1TakesLines() {
        grounded("level 1", kinAtLevel(1), "110000");
    }

    /** "at 2, also all with a packing, whenever, on the hook of the finding's packing". */
    private static void level2TakesTheHook() {
        grounded("level 2", kinAtLevel(2), "111000");
    }

    /** "at 3, also all with a packing in which a rigger did the same step". */
    private static void level3TakesRiggers() {
        grounded("level 3", kinAtLevel(3), "111100");
    }

    /** "at 4, also all with its lot of cloth". */
    private static void level4TakesCloth() {
        Silkloft loft = kinAtLevel(4);
        grounded("level 4", loft, "111110");
        Due.is("how many", loft.grounds(0), 5);
    }

    /** "those of the cause alone"; "whatever the level". */
    private static void causeGroundsAloneWhateverTheLevel() {
        String causes = "lhrcs";
        String[] due = {"110000", "101000", "100100", "100010", "100000"};
        for (int level = 0; level <= 4; level++) {
            for (int i = 0; i < 5; i++) {
                Silkloft loft = kinAtLevel(level);
                loft.tellCause(0, causes.charAt(i));
                grounded("cause " + causes.charAt(i) + " at level " + level, loft, due[i]);
                Due.is("how many", loft.grounds(0), i < 4 ? 2 : 1);
            }
        }
    }

    private static void causeTakesLevelsBack() {
        Silkloft loft = kinAtLevel(4);
        loft.tellCause(0, 's');
        grounded("nothing more", loft, "100000");
        loft.tellCause(0, 'c');
        grounded("then cloth", loft, "100010");
        loft.tellCause(0, 'l');
        grounded("then lines", loft, "110000");
    }

    private static void itselfIsAlwaysGrounded() {
        Silkloft loft = Lofts.packed("mr");
        loft.find(0);
        Due.is("level 0", loft.isGrounded(0), true);
        for (char cause : "lhrcs".toCharArray()) {
            loft.tellCause(0, cause);
            Due.is("cause " + cause, loft.isGrounded(0), true);
        }
        Lofts.dropAndPack(loft, 0, true);
        Due.is("packed again", loft.isGrounded(0), true);
    }

    private static void eachHook() {
        for (int hook = 0; hook < 6; hook++) {
            Silkloft loft = Lofts.with("mrmrmr");
            for (int i = 0; i < 6; i++) {
                Lofts.pack(loft, i, i, 0, 0, 0, 0, 1);
            }
            loft.find(hook);
            loft.tellCause(0, 'h');
            Due.is("none other on the hook " + hook, loft.grounds(0), 1);
            int other = (hook + 1) % 6;
            loft.drop(other, true);
            Lofts.pack(loft, other, hook);
            Due.is("one other on the hook " + hook, loft.grounds(0), 2);
            Due.is("that one", loft.isGrounded(other), true);
        }
    }

    /** "all with a packing, whenever": before the finding, behind it, or not the latest. */
    private static void hookWheneverItWas() {
        Silkloft loft = Lofts.with("mrmrm");
        Lofts.pack(loft, 1, 2);
        Lofts.dropAndPackOn(loft, 1, 3);
        loft.goOn(300);
        Lofts.pack(loft, 0, 2);
        Lofts.pack(loft, 3, 4);
        loft.find(0);
        loft.tellCause(0, 'h');
        grounded("before", loft, "11000");
        Lofts.pack(loft, 2, 2);
        grounded("behind", loft, "11100");
        Lofts.dropAndPackOn(loft, 2, 5);
        grounded("behind, and not the latest", loft, "11100");
    }

    /** "on the hook of the finding's packing": not of one before it or behind it. */
    private static void hookOfTheLatestPackingAlone() {
        Silkloft loft = Lofts.with("mrmr");
        Lofts.pack(loft, 0, 1);
        Lofts.pack(loft, 1, 1);
        Lofts.dropAndPackOn(loft, 0, 2);
        Lofts.pack(loft, 2, 2);
        loft.find(0);
        loft.tellCause(0, 'h');
        grounded("hook of the latest", loft, "1010");
        Lofts.dropAndPackOn(loft, 0, 3);
        Lofts.pack(loft, 3, 3);
        grounded("packed again behind it", loft, "1010");
        loft.find(0);
        loft.tellCause(1, 'h');
        grounded("with a second finding", loft, "1011");
    }

    /** "a rigger did the same step": each of the five steps is enough. */
    private static void riggersOfEachStep() {
        for (int step = 0; step < 5; step++) {
            Silkloft loft = Lofts.with("mrm");
            int[] riggers = {1, 2, 3, 4, 5};
            Lofts.pack(loft, 0, 0, riggers);
            int[] others = {0, 0, 0, 0, 1};
            Lofts.pack(loft, 2, 1, others);
            others[step] = riggers[step];
            Lofts.pack(loft, 1, 1, others);
            loft.find(0);
            loft.tellCause(0, 'r');
            grounded("the step " + step, loft, "110");
        }
    }

    /** The same riggers in other steps are nothing, in however many packings. */
    private static void riggerOfAnotherStep() {
        Silkloft loft = Lofts.with("mr");
        int[][] others = {{1, 2, 3, 4, 0}, {2, 3, 4, 0, 1}, {3, 4, 0, 1, 2}, {4, 0, 1, 2, 3}};
        for (int[] riggers : others) {
            Lofts.pack(loft, 1, 0, riggers);
            loft.drop(1, true);
        }
        Lofts.pack(loft, 0, 0, 0, 1, 2, 3, 4);
        loft.find(0);
        loft.tellCause(0, 'r');
        grounded("all of them in other steps", loft, "10");
        Lofts.pack(loft, 1, 0, 1, 2, 3, 0, 4);
        grounded("one of them in the same step", loft, "11");
    }

    private static void eachRigger() {
        for (int i = 0; i < 8; i++) {
            Silkloft loft = Lofts.with("mr");
            loft.addRigger(63, 9999);
            loft.addRigger(63, 9999);
            int a = (i + 1) % 8;
            int b = (i + 2) % 8;
            Lofts.pack(loft, 0, 0, i, a, a, a, b);
            Lofts.pack(loft, 1, 1, i, b, b, b, a);
            loft.find(0);
            loft.tellCause(0, 'r');
            Due.is("the rigger " + i, loft.isGrounded(1), true);
        }
    }

    private static void riggersWheneverItWas() {
        Silkloft loft = Lofts.with("mrm");
        Lofts.pack(loft, 1, 1, 0, 0, 0, 0, 1);
        loft.drop(1, true);
        Lofts.pack(loft, 1, 1, 4, 4, 4, 4, 5);
        Lofts.pack(loft, 0, 0, 0, 2, 2, 2, 3);
        loft.find(0);
        loft.tellCause(0, 'r');
        grounded("before, and not the latest", loft, "110");
        Lofts.pack(loft, 2, 1, 4, 4, 4, 4, 3);
        grounded("behind", loft, "111");
    }

    private static void riggersOfTheLatestPackingAlone() {
        Silkloft loft = Lofts.with("mrmr");
        Lofts.pack(loft, 0, 0, 0, 0, 0, 0, 1);
        Lofts.pack(loft, 1, 1, 0, 0, 0, 0, 1);
        loft.drop(0, true);
        Lofts.pack(loft, 0, 0, 2, 2, 2, 2, 3);
        Lofts.pack(loft, 2, 1, 2, 2, 2, 2, 3);
        loft.find(0);
        loft.tellCause(0, 'r');
        grounded("riggers of the latest", loft, "1010");
        loft.drop(0, true);
        Lofts.pack(loft, 0, 0, 4, 4, 4, 4, 5);
        Lofts.pack(loft, 3, 1, 4, 4, 4, 4, 5);
        grounded("packed again behind it", loft, "1010");
    }

    private static void packingUnderWayDoesNotGround() {
        Silkloft loft = Lofts.packed("mr");
        loft.addCanopy('m', 5, 5, 9);
        loft.find(0);
        loft.tellCause(0, 'h');
        Lofts.pack(loft, 2, 0, 0, 0, 0, 0);
        grounded("by the hook", loft, "110");
        loft.tellCause(0, 'r');
        grounded("by riggers", loft, "110");
        loft.breakOff(2);
        grounded("broken off", loft, "110");
        Lofts.pack(loft, 2, 0);
        grounded("packed", loft, "111");
    }

    /** "it grounds canopies, as things are now". */
    private static void onesAddedLater() {
        Silkloft loft = Lofts.staffed();
        loft.addCanopy('m', 4, 5, 9);
        loft.find(0);
        loft.widen(0);
        loft.addCanopy('r', 4, 5, 9);
        loft.addCanopy('r', 4, 6, 9);
        grounded("by lines", loft, "110");
        loft.tellCause(0, 'c');
        grounded("by cloth", loft, "111");
        Due.is("how many", loft.grounds(0), 3);
    }

    /** "its latest packing, if there is one": without one the levels 2 and 3 add nothing. */
    private static void withoutPackingByLevels() {
        Silkloft loft = Lofts.staffed();
        loft.addCanopy('m', 4, 5, 99);
        loft.addCanopy('r', 4, 6, 99);
        loft.addCanopy('m', 3, 5, 99);
        loft.addCanopy('r', 2, 2, 99);
        Lofts.pack(loft, 3);
        loft.find(0);
        String[] due = {"1000", "1010", "1010", "1010", "1110"};
        grounded("level 0", loft, due[0]);
        for (int level = 1; level <= 4; level++) {
            loft.widen(0);
            grounded("level " + level, loft, due[level]);
        }
    }

    private static void findingsOfDropsAndDamageHaveTheirPacking() {
        Silkloft loft = Lofts.with("mrmr");
        Lofts.pack(loft, 0, 1);
        Lofts.pack(loft, 1, 1);
        Lofts.pack(loft, 2, 2);
        Lofts.pack(loft, 3, 2);
        loft.drop(0, false);
        Due.is("hook of the one dropped", loft.tellCause(0, 'h'), '-');
        grounded("by its hook", loft, "1100");
        loft.hire(2, 1, 0);
        loft.back(2, true, true);
        Due.is("hook of the one damaged", loft.tellCause(1, 'h'), '-');
        grounded("by both hooks", loft, "1111");
        loft.close(0);
        grounded("by the second", loft, "0011");
    }

    private static void eachFindingIsItsOwn() {
        Silkloft loft = kin();
        loft.find(0);
        loft.find(5);
        loft.widen(0);
        grounded("lines of the first", loft, "110001");
        Due.is("of the second", loft.grounds(1), 1);
        loft.tellCause(1, 'h');
        grounded("hook of the second", loft, "110111");
        loft.close(0);
        grounded("the second alone", loft, "010111");
        loft.close(1);
        grounded("none", loft, "000000");
    }

    private static void reachedTwiceCountsOnce() {
        Silkloft loft = Lofts.staffed();
        loft.addCanopy('m', 1, 1, 9);
        loft.addCanopy('r', 1, 1, 9);
        Lofts.pack(loft, 0);
        Lofts.pack(loft, 1);
        loft.find(0);
        loft.find(1);
        for (int i = 0; i < 4; i++) {
            loft.widen(0);
            loft.widen(1);
        }
        Due.is("by each reason", loft.grounds(0), 2);
        Due.is("share, by two findings", loft.groundedShare(), 1f);
    }
}
