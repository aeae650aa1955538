/** The promises 7 to 9, 23, 26, 27 and 29: packing, and what is kept of it. */
public final class PackingTest {
    public static void main(String[] args) {
        canopiesAreHung();
        wrongHangingIsRefused();
        hangingRefusesInOrder();
        stepsAreDone();
        eachStepNeedsItsLicence();
        lastStepIsAnothersWork();
        licencesHoldUntilTheirDay();
        wrongStepsAreRefused();
        packingIsBrokenOff();
        hooksAreFreeAgain();
        packingsAreKept();
        wrongPackingsAreRefused();
        hooksAreShared();
        Due.end();
    }

    private static void canopiesAreHung() {
        Silkloft loft = Lofts.with("mrmrmrm");
        for (int i = 0; i < 6; i++) {
            Due.is("hang", loft.hang(i, 5 - i), i + 1);
            Due.is("its state", loft.stateOf(i), 'p');
        }
        Due.is("the other", loft.stateOf(6), 'o');
        loft.breakOff(2);
        Due.is("hang on the free hook", loft.hang(6, 3), 6);
    }

    private static void wrongHangingIsRefused() {
        Silkloft loft = Lofts.with("m");
        Due.fails("canopy -1", Lofts.INDEX, () -> loft.hang(-1, 0));
        Due.fails("canopy 1", Lofts.INDEX, () -> loft.hang(1, 0));
        Due.fails("hook -1", Lofts.ARGUMENT, () -> loft.hang(0, -1));
        Due.fails("hook 6", Lofts.ARGUMENT, () -> loft.hang(0, 6));
        Due.is("nothing was changed", loft.stateOf(0), 'o');
    }

    private static void hangingRefusesInOrder() {
        Silkloft loft = Lofts.packed("mrmr");
        loft.drop(2, true);
        loft.hang(2, 4);
        Due.fails("no canopy, no hook", Lofts.INDEX, () -> loft.hang(4, 6));
        Due.fails("not open, no hook", Lofts.ARGUMENT, () -> loft.hang(0, 6));
        Due.fails("packed, hook in use", Lofts.UNSUPPORTED, () -> loft.hang(0, 4));
        Due.fails("packed", Lofts.UNSUPPORTED, () -> loft.hang(0, 0));
        Due.fails("being packed", Lofts.UNSUPPORTED, () -> loft.hang(2, 0));
        loft.load();
        loft.board(0, 0, 1);
        loft.hire(3, 1, 0);
        Due.fails("aboard", Lofts.UNSUPPORTED, () -> loft.hang(0, 0));
        Due.fails("on hire", Lofts.UNSUPPORTED, () -> loft.hang(3, 0));
        loft.addCanopy('m', 0, 0, 1);
        Due.fails("hook in use", Lofts.STATE, () -> loft.hang(4, 4));
        loft.find(4);
        loft.goOn(2);
        Due.is("grounded and out of date", loft.hang(4, 5), 2);
    }

    private static void stepsAreDone() {
        Silkloft loft = Lofts.with("mr");
        loft.hang(0, 3);
        loft.hang(1, 2);
        for (int i = 0; i < 4; i++) {
            Due.is("step", loft.step(0, 0), i + 1);
            Due.is("state between", loft.stateOf(0), 'p');
        }
        Due.is("step of the other", loft.step(1, 0), 1);
        Due.is("last step", loft.step(0, 1), 5);
        Due.is("state then", loft.stateOf(0), 'k');
        Due.fails("step of one packed", Lofts.UNSUPPORTED, () -> loft.step(0, 0));
    }

    private static void eachStepNeedsItsLicence() {
        Silkloft loft = new Silkloft();
        for (int i = 0; i < 6; i++) {
            loft.addRigger(1 << i, 9999);
        }
        loft.addCanopy('m', 0, 0, 9);
        loft.hang(0, 0);
        for (int i = 0; i < 5; i++) {
            for (int rigger = 0; rigger < 6; rigger++) {
                int who = rigger;
                if (rigger != i) {
                    Due.fails("step without licence", Lofts.ARGUMENT, () -> loft.step(0, who));
                }
            }
            Due.is("step with licence", loft.step(0, i), i + 1);
        }
    }

    private static void lastStepIsAnothersWork() {
        Silkloft loft = Lofts.with("m");
        Lofts.pack(loft, 0, 0, 0, 1, 2, 3);
        Due.fails("step 4 by the same", Lofts.ARGUMENT, () -> loft.step(0, 3));
        Due.is("state", loft.stateOf(0), 'p');
        Due.is("step 4 by one of another step", loft.step(0, 2), 5);
    }

    private static void licencesHoldUntilTheirDay() {
        Silkloft loft = new Silkloft();
        loft.addRigger(31, 10);
        loft.addCanopy('m', 0, 0, 99);
        loft.hang(0, 0);
        loft.goOn(10);
        Due.is("step on the last day", loft.step(0, 0), 1);
        loft.goOn(1);
        Due.fails("step behind it", Lofts.ARGUMENT, () -> loft.step(0, 0));
        loft.setLicences(0, 31, 11);
        Due.is("step with new licences", loft.step(0, 0), 2);
    }

    private static void wrongStepsAreRefused() {
        Silkloft loft = Lofts.with("mm");
        loft.setLicences(5, 0, 9999);
        loft.hang(0, 0);
        Due.fails("canopy -1", Lofts.INDEX, () -> loft.step(-1, 0));
        Due.fails("canopy 2", Lofts.INDEX, () -> loft.step(2, 0));
        Due.fails("rigger -1", Lofts.INDEX, () -> loft.step(0, -1));
        Due.fails("rigger 6", Lofts.INDEX, () -> loft.step(0, 6));
        Due.fails("rigger 6, open", Lofts.INDEX, () -> loft.step(1, 6));
        Due.fails("open, no licence", Lofts.UNSUPPORTED, () -> loft.step(1, 5));
        Due.fails("no licence", Lofts.ARGUMENT, () -> loft.step(0, 5));
        Due.is("nothing was changed", loft.step(0, 0), 1);
    }

    private static void packingIsBrokenOff() {
        Silkloft loft = Lofts.with("mr");
        Due.fails("open", Lofts.UNSUPPORTED, () -> loft.breakOff(0));
        Due.fails("canopy -1", Lofts.INDEX, () -> loft.breakOff(-1));
        Due.fails("canopy 2", Lofts.INDEX, () -> loft.breakOff(2));
        loft.hang(0, 0);
        Due.is("no step", loft.breakOff(0), 0);
        Due.is("state then", loft.stateOf(0), 'o');
        Lofts.pack(loft, 0, 0, 0, 1, 2, 3);
        Due.is("four steps", loft.breakOff(0), 4);
        Due.is("no packing", loft.packings(0), 0);
        loft.hang(0, 0);
        Due.is("from the beginning", loft.step(0, 0), 1);
        Lofts.pack(loft, 1, 1);
        Due.fails("packed", Lofts.UNSUPPORTED, () -> loft.breakOff(1));
    }

    private static void hooksAreFreeAgain() {
        Silkloft loft = Lofts.with("mrm");
        loft.hang(0, 2);
        Due.fails("hook in use", Lofts.STATE, () -> loft.hang(1, 2));
        loft.breakOff(0);
        Due.is("behind breaking off", loft.hang(1, 2), 1);
        for (int i = 0; i < 4; i++) {
            loft.step(1, 0);
        }
        Due.fails("before the last step", Lofts.STATE, () -> loft.hang(2, 2));
        loft.step(1, 1);
        Due.is("behind packing", loft.hang(2, 2), 1);
    }

    private static void packingsAreKept() {
        Silkloft loft = Lofts.with("mr");
        Due.is("none yet", loft.packings(0), 0);
        loft.goOn(3);
        Lofts.pack(loft, 0, 4, 0, 1, 2, 3, 4);
        Lofts.pack(loft, 1, 5, 5, 5, 5, 5, 0);
        loft.drop(0, true);
        loft.hang(0, 2);
        for (int i = 4; i > 0; i--) {
            loft.step(0, i);
        }
        loft.goOn(7);
        Due.is("before the last step", loft.packings(0), 1);
        loft.step(0, 0);
        Due.is("two packings", loft.packings(0), 2);
        Due.is("the other's", loft.packings(1), 1);
        Due.is("hook", loft.packingOf(0, 0, 'h'), 4);
        Due.is("day", loft.packingOf(0, 0, 'd'), 3);
        Due.is("hook of the second", loft.packingOf(0, 1, 'h'), 2);
        Due.is("day of the second, of its last step", loft.packingOf(0, 1, 'd'), 10);
        Due.is("hook of the other", loft.packingOf(1, 0, 'h'), 5);
        for (int i = 0; i < 5; i++) {
            char what = (char) ('0' + i);
            Due.is("rigger", loft.packingOf(0, 0, what), i);
            Due.is("rigger of the second", loft.packingOf(0, 1, what), 4 - i);
            Due.is("rigger of the other", loft.packingOf(1, 0, what), i == 4 ? 0 : 5);
        }
    }

    private static void wrongPackingsAreRefused() {
        Silkloft loft = Lofts.with("mr");
        Lofts.pack(loft, 0);
        Due.fails("packings(-1)", Lofts.INDEX, () -> loft.packings(-1));
        Due.fails("packings(2)", Lofts.INDEX, () -> loft.packings(2));
        Due.fails("canopy -1", Lofts.INDEX, () -> loft.packingOf(-1, 0, 'h'));
        Due.fails("canopy 2", Lofts.INDEX, () -> loft.packingOf(2, 0, 'h'));
        Due.fails("index -1", Lofts.INDEX, () -> loft.packingOf(0, -1, 'h'));
        Due.fails("index 1", Lofts.INDEX, () -> loft.packingOf(0, 1, 'h'));
        Due.fails("index 0 of the other", Lofts.INDEX, () -> loft.packingOf(1, 0, 'h'));
        Due.fails("index 1, no such thing", Lofts.INDEX, () -> loft.packingOf(0, 1, 'x'));
        Due.fails("5", Lofts.ARGUMENT, () -> loft.packingOf(0, 0, '5'));
        Due.fails("/", Lofts.ARGUMENT, () -> loft.packingOf(0, 0, '/'));
        Due.fails("x", Lofts.ARGUMENT, () -> loft.packingOf(0, 0, 'x'));
        Due.fails("0 as a number", Lofts.ARGUMENT, () -> loft.packingOf(0, 0, (char) 0));
        loft.drop(0, true);
        loft.hang(0, 1);
        Due.fails("one being packed", Lofts.INDEX, () -> loft.packingOf(0, 1, 'h'));
    }

    private static void hooksAreShared() {
        Silkloft loft = Lofts.with("mrmrm");
        Due.is("without packing", loft.sharers(0), 0);
        Lofts.pack(loft, 0, 1);
        Due.is("alone", loft.sharers(0), 0);
        Lofts.pack(loft, 1, 1);
        Lofts.pack(loft, 2, 2);
        loft.hang(3, 1);
        Due.is("being packed does not count", loft.sharers(0), 1);
        loft.breakOff(3);
        Due.is("broken off does not count", loft.sharers(0), 1);
        Due.is("open without packing", loft.sharers(3), 0);
        loft.drop(0, true);
        Lofts.pack(loft, 0, 2);
        Due.is("on either hook", loft.sharers(0), 2);
        Due.is("on the hook of earlier", loft.sharers(1), 1);
        loft.drop(2, true);
        Lofts.pack(loft, 2, 1);
        Due.is("two hooks shared count once", loft.sharers(0), 2);
        Due.is("now with both", loft.sharers(1), 2);
        Due.fails("sharers(-1)", Lofts.INDEX, () -> loft.sharers(-1));
        Due.fails("sharers(5)", Lofts.INDEX, () -> loft.sharers(5));
    }
}
