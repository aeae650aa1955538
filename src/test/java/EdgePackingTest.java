/** The boundary cases of packing, and of the promises 7 to 9, 23, 26, 27 and 29, a test each. */
public final class EdgePackingTest {
    public static void main(String[] args) {
        hangingOfCanopiesThatThereAre();
        hooksFrom0To5();
        onlyOpenOnesAreHung();
        hookHasNoOtherOne();
        allHooksInUse();
        hooksInUseAreCounted();
        groundedAndOldOnesAreHung();
        stepsOnCanopiesThatThereAre();
        stepsByRiggersThatThereAre();
        stepsOnlyWhilePacking();
        stepsInTheirOrder();
        licenceIsAskedOnTheDayOfTheStep();
        step4ByAnotherThanStep3();
        step4ByOneOfTheFirstSteps();
        step3OfAPackingBrokenOffIsForgotten();
        refusedStepIsNotDone();
        breakingOffWhatThereIs();
        onlyPackingIsBrokenOff();
        brokenOffBehindEachStep();
        brokenOffIsNone();
        hookIsFreeByBreakingOff();
        hookIsFreeByPacking();
        Due.end();
    }

    /** "Throws IndexOutOfBoundsException if there is no such canopy". */
    private static void hangingOfCanopiesThatThereAre() {
        Silkloft none = new Silkloft();
        Due.failsForEach("hang of none", Lofts.INDEX, i -> none.hang(i, 0), Lofts.noneOf(0));
        Silkloft loft = Lofts.with("mr");
        Due.failsForEach("hang", Lofts.INDEX, i -> loft.hang(i, 0), Lofts.noneOf(2));
        Due.is("the last", loft.hang(1, 0), 1);
        Due.is("the first", loft.hang(0, 1), 2);
    }

    /** "hook: the hook, 0 to 5". */
    private static void hooksFrom0To5() {
        Silkloft loft = Lofts.with("mr");
        Due.failsForEach("hook", Lofts.ARGUMENT, i -> loft.hang(0, i), Lofts.outside(0, 5));
        Due.is("hook 0", loft.hang(0, 0), 1);
        Due.is("hook 5", loft.hang(1, 5), 2);
    }

    /** "Throws UnsupportedOperationException if the canopy is not open". */
    private static void onlyOpenOnesAreHung() {
        for (char kind : "mr".toCharArray()) {
            for (char state : "pkah".toCharArray()) {
                Silkloft loft = Lofts.inState(kind, state);
                Due.fails("hang in state " + state, Lofts.UNSUPPORTED, () -> loft.hang(0, 0));
                Due.is("its state", loft.stateOf(0), state);
            }
            Silkloft open = Lofts.inState(kind, 'o');
            Due.is("hang in state o", open.hang(0, 0), 1);
            Due.is("then being packed", open.stateOf(0), 'p');
        }
    }

    /** "one of the hooks 0 to 5, which has no other one"; "if the hook is in use". */
    private static void hookHasNoOtherOne() {
        for (int i = 0; i < 6; i++) {
            int hook = i;
            Silkloft loft = Lofts.with("mr");
            loft.hang(0, hook);
            Due.fails("hook in use " + i, Lofts.STATE, () -> loft.hang(1, hook));
            Due.is("hook beside it", loft.hang(1, (hook + 1) % 6), 2);
        }
    }

    private static void allHooksInUse() {
        Silkloft loft = Lofts.with("mrmrmrm");
        for (int i = 0; i < 6; i++) {
            loft.hang(i, i);
        }
        Due.failsForEach("hook in use", Lofts.STATE, i -> loft.hang(6, i), 0, 1, 2, 3, 4, 5);
        Due.is("state of the seventh", loft.stateOf(6), 'o');
        loft.breakOff(4);
        Due.is("the hook that is free", loft.hang(6, 4), 6);
    }

    /** "Returns how many hooks are in use", 1 to 6. */
    private static void hooksInUseAreCounted() {
        Silkloft loft = Lofts.with("mrmrmrmr");
        for (int i = 0; i < 6; i++) {
            Due.is("hooks in use", loft.hang(i, 5 - i), i + 1);
        }
        loft.breakOff(0);
        loft.breakOff(1);
        Due.is("behind two broken off", loft.hang(6, 5), 5);
        loft.step(2, 0);
        loft.step(2, 0);
        loft.step(2, 0);
        loft.step(2, 0);
        loft.step(2, 1);
        Due.is("behind one packed", loft.hang(7, 3), 5);
    }

    private static void groundedAndOldOnesAreHung() {
        Silkloft loft = Lofts.staffed();
        loft.addCanopy('r', 0, 0, 1);
        loft.find(0);
        loft.goOn(2);
        Due.is("grounded", loft.isGrounded(0), true);
        Due.is("out of date", loft.isOut(0), true);
        Due.is("hung", loft.hang(0, 0), 1);
    }

    /** "if there is no such canopy or rigger", of step. */
    private static void stepsOnCanopiesThatThereAre() {
        Silkloft none = Lofts.staffed();
        Due.failsForEach("step on none", Lofts.INDEX, i -> none.step(i, 0), Lofts.noneOf(0));
        Silkloft loft = Lofts.with("mr");
        loft.hang(0, 0);
        loft.hang(1, 1);
        Due.failsForEach("step on", Lofts.INDEX, i -> loft.step(i, 0), Lofts.noneOf(2));
        Due.is("on the first", loft.step(0, 0), 1);
        Due.is("on the last", loft.step(1, 0), 1);
    }

    private static void stepsByRiggersThatThereAre() {
        Silkloft none = new Silkloft();
        none.addCanopy('m', 0, 0, 9);
        none.hang(0, 0);
        Due.failsForEach("step by none", Lofts.INDEX, i -> none.step(0, i), Lofts.noneOf(0));
        Silkloft loft = Lofts.with("m");
        loft.hang(0, 0);
        Due.failsForEach("step by", Lofts.INDEX, i -> loft.step(0, i), Lofts.noneOf(6));
        Due.is("by the first", loft.step(0, 0), 1);
        Due.is("by the last", loft.step(0, 5), 2);
    }

    /** "if the canopy is not being packed", of step. */
    private static void stepsOnlyWhilePacking() {
        for (char state : "okah".toCharArray()) {
            Silkloft loft = Lofts.inState('m', state);
            Due.fails("step in state " + state, Lofts.UNSUPPORTED, () -> loft.step(0, 2));
            Due.is("its state", loft.stateOf(0), state);
            Due.is("its packings", loft.packings(0), state == 'o' ? 0 : 1);
        }
        Silkloft broken = Lofts.inState('m', 'p');
        broken.breakOff(0);
        Due.fails("step behind breaking off", Lofts.UNSUPPORTED, () -> broken.step(0, 0));
    }

    /** "the steps 0 to 4 are done, in this order"; "Returns how many steps are done". */
    private static void stepsInTheirOrder() {
        Silkloft loft = Lofts.staffed();
        loft.addCanopy('m', 0, 0, 9);
        for (int i = 0; i < 5; i++) {
            loft.setLicences(i, 1 << i, 9999);
        }
        loft.hang(0, 0);
        for (int i = 0; i < 5; i++) {
            for (int later = i + 1; later < 5; later++) {
                int rigger = later;
                Due.fails("step " + later + " too early", Lofts.ARGUMENT,
                        () -> loft.step(0, rigger));
            }
            Due.is("being packed before step " + i, loft.stateOf(0), 'p');
            Due.is("step " + i, loft.step(0, i), i + 1);
        }
        Due.is("packed with the last", loft.stateOf(0), 'k');
    }

    /** "each by a rigger who has the licence for it on this day". */
    private static void licenceIsAskedOnTheDayOfTheStep() {
        Silkloft loft = Lofts.with("m");
        loft.setLicences(0, 63, 3);
        loft.hang(0, 0);
        Due.is("before the last day", loft.step(0, 0), 1);
        loft.goOn(3);
        Due.is("on the last day", loft.step(0, 0), 2);
        loft.goOn(1);
        Due.fails("behind it", Lofts.ARGUMENT, () -> loft.step(0, 0));
        Due.is("by another", loft.step(0, 1), 3);
        loft.setLicences(1, 63 - 8, 9999);
        Due.fails("taken away since", Lofts.ARGUMENT, () -> loft.step(0, 1));
        Due.is("by a third", loft.step(0, 2), 4);
        Due.is("the last step needs another licence", loft.step(0, 1), 5);
    }

    /** "the step 4 not by the one who did the step 3". */
    private static void step4ByAnotherThanStep3() {
        for (int i = 0; i < 6; i++) {
            int rigger = i;
            Silkloft loft = Lofts.with("m");
            Lofts.pack(loft, 0, 0, rigger, rigger, rigger, rigger);
            Due.fails("step 4 by " + i, Lofts.ARGUMENT, () -> loft.step(0, rigger));
            Due.is("four steps are done", loft.stateOf(0), 'p');
            Due.is("step 4 by another", loft.step(0, (rigger + 1) % 6), 5);
        }
    }

    private static void step4ByOneOfTheFirstSteps() {
        for (int i = 0; i < 3; i++) {
            Silkloft loft = Lofts.with("m");
            int[] riggers = {1, 1, 1, 0};
            riggers[i] = 2;
            Lofts.pack(loft, 0, 0, riggers);
            Due.is("step 4 by that of step " + i, loft.step(0, 2), 5);
        }
    }

    private static void step3OfAPackingBrokenOffIsForgotten() {
        Silkloft loft = Lofts.with("mr");
        Lofts.pack(loft, 0, 0, 1, 1, 1, 0);
        loft.breakOff(0);
        Lofts.pack(loft, 1, 1, 0, 0, 0, 0);
        Lofts.pack(loft, 0, 0, 1, 1, 1, 1);
        Due.is("step 4 by that of the former step 3", loft.step(0, 0), 5);
        Due.is("step 4 by that of another's step 3", loft.step(1, 1), 5);
    }

    private static void refusedStepIsNotDone() {
        Silkloft loft = Lofts.with("m");
        loft.addRigger(0, 9999);
        loft.hang(0, 0);
        for (int i = 0; i < 5; i++) {
            Due.fails("step without licence", Lofts.ARGUMENT, () -> loft.step(0, 6));
            Due.is("step", loft.step(0, i), i + 1);
        }
        for (int i = 0; i < 5; i++) {
            Due.is("rigger of it", loft.packingOf(0, 0, (char) ('0' + i)), i);
        }
    }

    /** "if there is no such canopy", of breakOff. */
    private static void breakingOffWhatThereIs() {
        Silkloft none = new Silkloft();
        Due.failsForEach("breakOff of none", Lofts.INDEX, i -> none.breakOff(i),
                Lofts.noneOf(0));
        Silkloft loft = Lofts.with("mr");
        loft.hang(0, 0);
        loft.hang(1, 1);
        Due.failsForEach("breakOff", Lofts.INDEX, i -> loft.breakOff(i), Lofts.noneOf(2));
        Due.is("the last", loft.breakOff(1), 0);
        Due.is("the first", loft.breakOff(0), 0);
    }

    /** "if the canopy is not being packed", of breakOff. */
    private static void onlyPackingIsBrokenOff() {
        for (char state : "okah".toCharArray()) {
            Silkloft loft = Lofts.inState('r', state);
            Due.fails("breakOff in state " + state, Lofts.UNSUPPORTED, () -> loft.breakOff(0));
            Due.is("its state", loft.stateOf(0), state);
        }
        Silkloft broken = Lofts.inState('r', 'p');
        broken.breakOff(0);
        Due.fails("breakOff twice", Lofts.UNSUPPORTED, () -> broken.breakOff(0));
    }

    /** "Returns how many steps were done", 0 to 4. */
    private static void brokenOffBehindEachStep() {
        for (int steps = 0; steps < 5; steps++) {
            Silkloft loft = Lofts.with("m");
            loft.hang(0, 0);
            for (int i = 0; i < steps; i++) {
                loft.step(0, 0);
            }
            Due.is("steps that were done", loft.breakOff(0), steps);
            Due.is("open then", loft.stateOf(0), 'o');
            loft.hang(0, 0);
            Due.is("the next packing begins with none", loft.breakOff(0), 0);
        }
    }

    /** "One that is broken off is none; the canopy is open then." */
    private static void brokenOffIsNone() {
        Silkloft loft = Lofts.with("mr");
        Lofts.pack(loft, 1, 0);
        Lofts.pack(loft, 0, 0, 0, 0, 0, 0);
        loft.breakOff(0);
        Due.is("packings", loft.packings(0), 0);
        Due.fails("packing 0", Lofts.INDEX, () -> loft.packingOf(0, 0, 'h'));
        Due.is("sharers", loft.sharers(0), 0);
        Due.is("sharers of the other", loft.sharers(1), 0);
        loft.find(0);
        Due.fails("no packing to be found", Lofts.UNSUPPORTED, () -> loft.tellCause(0, 'h'));
        Due.is("repaired, as it is open", loft.repair(0, 0), 1);
    }

    private static void hookIsFreeByBreakingOff() {
        Silkloft loft = Lofts.with("mr");
        loft.hang(0, 3);
        Due.fails("in use", Lofts.STATE, () -> loft.hang(1, 3));
        loft.breakOff(0);
        Due.is("free", loft.hang(1, 3), 1);
    }

    /** "With it, the canopy is packed, and the hook is free". */
    private static void hookIsFreeByPacking() {
        Silkloft loft = Lofts.with("mr");
        Lofts.pack(loft, 0, 3, 0, 0, 0, 0);
        Due.fails("in use behind step 3", Lofts.STATE, () -> loft.hang(1, 3));
        loft.step(0, 1);
        Due.is("packed with step 4", loft.stateOf(0), 'k');
        Due.is("free with step 4", loft.hang(1, 3), 1);
    }
}
