/** The promises 14 to 18 and 24: findings, and what they ground. */
public final class FindingTest {
    public static void main(String[] args) {
        findingsAreNumbered();
        wrongFindingsAreRefused();
        levelsWiden();
        wideningIsRefused();
        linesGround();
        hooksGround();
        riggersGroundByStep();
        clothGrounds();
        levelsAddUp();
        causesGroundAlone();
        causesAreToldAnew();
        wrongCausesAreRefused();
        findingsWithoutPacking();
        findingKeepsItsPacking();
        laterPackingsAreGrounded();
        packingUnderWayIsNone();
        closedFindingsGroundNothing();
        severalFindings();
        Due.end();
    }

    private static void findingsAreNumbered() {
        Silkloft loft = Lofts.packed("mr");
        for (int i = 0; i < 12; i++) {
            Due.is("find", loft.find(i % 2), i);
            Due.is("it grounds itself", loft.grounds(i), 1);
        }
        Due.fails("finding 13", Lofts.STATE, () -> loft.find(0));
        Due.fails("finding 13 of none", Lofts.INDEX, () -> loft.find(2));
        loft.close(0);
        Due.fails("closed ones count", Lofts.STATE, () -> loft.find(0));
    }

    private static void wrongFindingsAreRefused() {
        Silkloft loft = Lofts.with("mr");
        Due.fails("find(-1)", Lofts.INDEX, () -> loft.find(-1));
        Due.fails("find(2)", Lofts.INDEX, () -> loft.find(2));
        Due.fails("grounds(0)", Lofts.INDEX, () -> loft.grounds(0));
        Due.is("finding of an open one", loft.find(1), 0);
        Due.fails("grounds(-1)", Lofts.INDEX, () -> loft.grounds(-1));
        Due.fails("grounds(1)", Lofts.INDEX, () -> loft.grounds(1));
        Due.is("grounded", loft.isGrounded(1), true);
        Due.is("not grounded", loft.isGrounded(0), false);
        Due.fails("isGrounded(-1)", Lofts.INDEX, () -> loft.isGrounded(-1));
        Due.fails("isGrounded(2)", Lofts.INDEX, () -> loft.isGrounded(2));
    }

    private static void levelsWiden() {
        Silkloft loft = Lofts.packed("mr");
        loft.find(0);
        loft.find(1);
        for (int i = 1; i < 5; i++) {
            Due.is("widen", loft.widen(0), i);
        }
        Due.fails("level 5", Lofts.UNSUPPORTED, () -> loft.widen(0));
        Due.is("the other", loft.widen(1), 1);
    }

    private static void wideningIsRefused() {
        Silkloft loft = Lofts.packed("mr");
        Due.fails("no findings", Lofts.INDEX, () -> loft.widen(0));
        loft.find(0);
        loft.find(1);
        Due.fails("finding -1", Lofts.INDEX, () -> loft.widen(-1));
        Due.fails("finding 2", Lofts.INDEX, () -> loft.widen(2));
        loft.tellCause(0, 's');
        Due.fails("cause told", Lofts.UNSUPPORTED, () -> loft.widen(0));
        loft.close(1);
        Due.fails("closed", Lofts.UNSUPPORTED, () -> loft.widen(1));
    }

    /** The canopy 0, one that shares each thing of it alone, 1 to 4, and one that shares none. */
    private static Silkloft kin() {
        Silkloft loft = Lofts.staffed();
        loft.addCanopy('m', 0, 0, 999);
        loft.addCanopy('r', 1, 0, 999);
        loft.addCanopy('m', 2, 2, 999);
        loft.addCanopy('r', 3, 3, 999);
        loft.addCanopy('m', 0, 4, 999);
        loft.addCanopy('r', 5, 5, 999);
        Lofts.pack(loft, 0, 0, 0, 1, 2, 3, 4);
        Lofts.pack(loft, 1, 1, 1, 0, 1, 0, 1);
        Lofts.pack(loft, 2, 0, 1, 0, 1, 0, 1);
        Lofts.pack(loft, 3, 1, 1, 0, 1, 0, 4);
        Lofts.pack(loft, 4, 1, 1, 0, 1, 0, 1);
        Lofts.pack(loft, 5, 1, 1, 0, 1, 0, 1);
        return loft;
    }

    private static void grounded(String what, Silkloft loft, String due) {
        for (int i = 0; i < due.length(); i++) {
            String text = what + ", canopy " + i;
            Due.is(text, loft.isGrounded(i), due.charAt(i) == '1');
        }
    }

    private static void levelsAddUp() {
        Silkloft loft = kin();
        loft.find(0);
        grounded("level 0", loft, "100000");
        loft.widen(0);
        grounded("level 1", loft, "110000");
        loft.widen(0);
        grounded("level 2", loft, "111000");
        loft.widen(0);
        grounded("level 3", loft, "111100");
        loft.widen(0);
        grounded("level 4", loft, "111110");
        Due.is("how many", loft.grounds(0), 5);
    }

    private static void causesGroundAlone() {
        String causes = "lhrcs";
        for (int widened = 0; widened < 5; widened++) {
            Silkloft loft = kin();
            loft.find(0);
            for (int i = 0; i < widened; i++) {
                loft.widen(0);
            }
            for (int i = 0; i < 5; i++) {
                loft.tellCause(0, causes.charAt(i));
                StringBuilder due = new StringBuilder("100000");
                if (i < 4) {
                    due.setCharAt(i + 1, '1');
                }
                grounded("cause " + causes.charAt(i), loft, due.toString());
                Due.is("how many by the cause", loft.grounds(0), i < 4 ? 2 : 1);
            }
        }
    }

    private static void linesGround() {
        Silkloft loft = Lofts.staffed();
        loft.addCanopy('m', 1, 7, 9);
        loft.addCanopy('m', 7, 1, 9);
        loft.addCanopy('r', 2, 7, 9);
        loft.find(0);
        Due.is("level 0", loft.grounds(0), 1);
        loft.widen(0);
        grounded("lines", loft, "101");
        Due.is("level 1", loft.grounds(0), 2);
        loft.addCanopy('m', 3, 7, 9);
        Due.is("one that was added later", loft.isGrounded(3), true);
    }

    private static void hooksGround() {
        Silkloft loft = Lofts.with("mrmrm");
        Lofts.pack(loft, 0, 1, 0, 0, 0, 0, 1);
        Lofts.pack(loft, 1, 1, 2, 2, 2, 2, 3);
        loft.drop(1, true);
        Lofts.pack(loft, 1, 2, 2, 2, 2, 2, 3);
        Lofts.pack(loft, 2, 2, 2, 2, 2, 2, 3);
        loft.hang(3, 1);
        loft.find(0);
        loft.tellCause(0, 'h');
        grounded("hook", loft, "11000");
        loft.breakOff(3);
        grounded("hook, broken off", loft, "11000");
    }

    private static void riggersGroundByStep() {
        Silkloft loft = Lofts.with("mrmrmrmm");
        Lofts.pack(loft, 0, 0, 0, 1, 2, 3, 4);
        for (int i = 0; i < 5; i++) {
            int[] riggers = {5, 5, 5, 5, 5};
            if (i < 3) {
                riggers[4] = 0;
            }
            riggers[i] = i;
            if (i == 3) {
                riggers[4] = 0;
            }
            Lofts.pack(loft, i + 1, i + 1, riggers);
        }
        Lofts.pack(loft, 6, 1, 1, 0, 3, 2, 5);
        loft.find(0);
        loft.tellCause(0, 'r');
        grounded("riggers", loft, "11111100");
        Due.is("how many", loft.grounds(0), 6);
        loft.drop(1, true);
        Lofts.pack(loft, 1, 1, 1, 0, 3, 2, 5);
        Due.is("by an earlier packing", loft.isGrounded(1), true);
    }

    private static void clothGrounds() {
        Silkloft loft = Lofts.staffed();
        loft.addCanopy('m', 1, 7, 9);
        loft.addCanopy('m', 7, 1, 9);
        loft.addCanopy('r', 1, 3, 9);
        loft.find(0);
        for (int i = 0; i < 3; i++) {
            loft.widen(0);
            Due.is("below level 4", loft.grounds(0), 1);
        }
        loft.widen(0);
        grounded("cloth", loft, "101");
    }

    private static void causesAreToldAnew() {
        Silkloft loft = Lofts.packed("mr");
        loft.find(0);
        loft.find(1);
        Due.is("first cause", loft.tellCause(0, 'l'), '-');
        Due.is("second", loft.tellCause(0, 'h'), 'l');
        Due.is("third", loft.tellCause(0, 'r'), 'h');
        Due.is("fourth", loft.tellCause(0, 'c'), 'r');
        Due.is("fifth", loft.tellCause(0, 's'), 'c');
        Due.is("the same", loft.tellCause(0, 's'), 's');
        Due.is("of the other", loft.tellCause(1, 's'), '-');
    }

    private static void wrongCausesAreRefused() {
        Silkloft loft = Lofts.with("mr");
        Due.fails("no findings", Lofts.INDEX, () -> loft.tellCause(0, 's'));
        loft.find(0);
        Due.fails("finding -1", Lofts.INDEX, () -> loft.tellCause(-1, 's'));
        Due.fails("finding 1, no cause", Lofts.INDEX, () -> loft.tellCause(1, 'x'));
        Due.fails("cause x", Lofts.ARGUMENT, () -> loft.tellCause(0, 'x'));
        Due.fails("cause -", Lofts.ARGUMENT, () -> loft.tellCause(0, '-'));
        Due.fails("cause L", Lofts.ARGUMENT, () -> loft.tellCause(0, 'L'));
        Due.fails("h without packing", Lofts.UNSUPPORTED, () -> loft.tellCause(0, 'h'));
        Due.fails("r without packing", Lofts.UNSUPPORTED, () -> loft.tellCause(0, 'r'));
        Due.is("l without packing", loft.tellCause(0, 'l'), '-');
        Due.is("c without packing", loft.tellCause(0, 'c'), 'l');
        Due.is("s without packing", loft.tellCause(0, 's'), 'c');
        loft.close(0);
        Due.fails("closed", Lofts.UNSUPPORTED, () -> loft.tellCause(0, 's'));
        Due.fails("closed, no cause", Lofts.ARGUMENT, () -> loft.tellCause(0, 'x'));
    }

    private static void findingsWithoutPacking() {
        Silkloft loft = Lofts.with("mrm");
        Lofts.pack(loft, 1, 0);
        loft.find(0);
        loft.widen(0);
        loft.widen(0);
        loft.widen(0);
        Due.is("level 3", loft.grounds(0), 1);
        Lofts.pack(loft, 0, 0);
        Due.is("packed since then", loft.grounds(0), 1);
        Due.fails("it has none yet", Lofts.UNSUPPORTED, () -> loft.tellCause(0, 'h'));
        Due.is("another has one", loft.tellCause(loft.find(0), 'h'), '-');
        Due.is("it grounds both", loft.grounds(1), 2);
    }

    private static void findingKeepsItsPacking() {
        Silkloft loft = Lofts.with("mrm");
        Lofts.pack(loft, 0, 0, 0, 0, 0, 0, 1);
        loft.drop(0, true);
        Lofts.pack(loft, 0, 1, 2, 2, 2, 2, 3);
        Lofts.pack(loft, 1, 0, 0, 0, 0, 0, 1);
        Lofts.pack(loft, 2, 1, 2, 2, 2, 2, 3);
        loft.find(0);
        loft.tellCause(0, 'h');
        grounded("hook of the latest", loft, "101");
        loft.tellCause(0, 'r');
        grounded("riggers of the latest", loft, "101");
        loft.drop(0, true);
        Lofts.pack(loft, 0, 0, 0, 0, 0, 0, 1);
        grounded("riggers, packed again", loft, "101");
        loft.tellCause(0, 'h');
        grounded("hook, packed again", loft, "101");
    }

    private static void laterPackingsAreGrounded() {
        Silkloft loft = Lofts.with("mrm");
        Lofts.pack(loft, 0, 3, 0, 0, 0, 0, 1);
        loft.find(0);
        loft.tellCause(0, 'h');
        Due.is("before", loft.isGrounded(1), false);
        Lofts.pack(loft, 1, 3, 2, 2, 2, 2, 3);
        Due.is("by a later packing", loft.isGrounded(1), true);
        loft.tellCause(0, 'r');
        Due.is("other riggers", loft.isGrounded(1), false);
        Lofts.pack(loft, 2, 4, 2, 0, 2, 2, 3);
        Due.is("by a rigger of a later packing", loft.isGrounded(2), true);
    }

    private static void packingUnderWayIsNone() {
        Silkloft loft = Lofts.with("mr");
        Lofts.pack(loft, 0, 3, 0, 0, 0, 0);
        loft.find(0);
        Due.fails("one under way is none", Lofts.UNSUPPORTED, () -> loft.tellCause(0, 'h'));
        loft.breakOff(0);
        Due.fails("one broken off is none", Lofts.UNSUPPORTED, () -> loft.tellCause(0, 'r'));
        Lofts.pack(loft, 1, 3, 0, 0, 0, 0, 1);
        loft.find(1);
        loft.tellCause(1, 'r');
        Lofts.pack(loft, 0, 3, 0, 0, 0, 0);
        Due.is("nor does it ground", loft.grounds(1), 1);
    }

    private static void closedFindingsGroundNothing() {
        Silkloft loft = Lofts.packed("mr");
        Due.fails("no findings", Lofts.INDEX, () -> loft.close(0));
        loft.find(0);
        Due.fails("finding -1", Lofts.INDEX, () -> loft.close(-1));
        Due.fails("finding 1", Lofts.INDEX, () -> loft.close(1));
        loft.widen(0);
        loft.widen(0);
        Due.is("both", loft.grounds(0), 2);
        Due.is("close", loft.close(0), true);
        Due.is("close again", loft.close(0), false);
        Due.is("none", loft.grounds(0), 0);
        grounded("closed", loft, "00");
        loft.find(1);
        loft.tellCause(1, 'h');
        loft.close(1);
        grounded("closed with its cause told", loft, "00");
    }

    private static void severalFindings() {
        Silkloft loft = Lofts.packed("mrm");
        loft.find(0);
        loft.find(0);
        loft.find(1);
        grounded("three", loft, "110");
        loft.close(0);
        grounded("two", loft, "110");
        loft.close(1);
        grounded("one", loft, "010");
    }
}
