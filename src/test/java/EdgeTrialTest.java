/** The boundary cases of repairs, drops and getting free, and of the promises 19 and 20. */
public final class EdgeTrialTest {
    public static void main(String[] args) {
        repairsOfCanopiesThatThereAre();
        repairsByRiggersThatThereAre();
        onlyOpenOnesAreRepaired();
        repairNeedsItsLicence();
        repairOnTheLastDayOfTheLicence();
        repairsFromOneOn();
        groundedAndOldOnesAreRepaired();
        dropsOfCanopiesThatThereAre();
        onlyPackedOnesAreDropped();
        groundedOnesAreDropped();
        oldOnesAreDropped();
        goodDropsInARow();
        badDropEndsTheRow();
        badDropIsFoundIfThereAreLessThan12();
        badDropIsNotFoundIfThereAre12();
        goodDropIsNotFound();
        noDropFrees();
        oneDropDoesNotFree();
        dropsBeforeTheFindingDoNotFree();
        oneBeforeAndOneBehindDoNotFree();
        badOneBetweenSpoils();
        badOneBehindSpoils();
        badOneBeforeBothIsNoMatter();
        repairsBetweenAreNoMatter();
        packingAfterwardsIsNoMatter();
        itselfNeedsARepair();
        itselfNeedsBothDropsBehindTheRepair();
        repairBeforeTheFindingDoesNotCount();
        repairOfAnotherDoesNotCount();
        laterRepairsTakeNothingBack();
        badDropOfItselfNeedsRepairAnew();
        freeOnesAreLeftOut();
        eachGetsFreeForItself();
        freeOfOneFindingNotOfAnother();
        findingBehindTheDropsGroundsAnew();
        freeOfWhatGroundsItLater();
        tellingTheCauseTakesNothingBack();
        Due.end();
    }

    /** "if there is no such canopy or rigger", of repair. */
    private static void repairsOfCanopiesThatThereAre() {
        Silkloft none = Lofts.staffed();
        Due.failsForEach("repair of none", Lofts.INDEX, i -> none.repair(i, 0), Lofts.noneOf(0));
        Silkloft loft = Lofts.with("mr");
        Due.failsForEach("repair of", Lofts.INDEX, i -> loft.repair(i, 0), Lofts.noneOf(2));
        Due.is("of the first", loft.repair(0, 0), 1);
        Due.is("of the last", loft.repair(1, 0), 1);
    }

    private static void repairsByRiggersThatThereAre() {
        Silkloft none = new Silkloft();
        none.addCanopy('m', 0, 0, 9);
        Due.failsForEach("repair by none", Lofts.INDEX, i -> none.repair(0, i), Lofts.noneOf(0));
        Silkloft loft = Lofts.with("m");
        Due.failsForEach("repair by", Lofts.INDEX, i -> loft.repair(0, i), Lofts.noneOf(6));
        Due.is("by the first", loft.repair(0, 0), 1);
        Due.is("by the last", loft.repair(0, 5), 2);
    }

    /** "if the canopy is not open", of repair. */
    private static void onlyOpenOnesAreRepaired() {
        for (char kind : "mr".toCharArray()) {
            for (char state : "pkah".toCharArray()) {
                Silkloft loft = Lofts.inState(kind, state);
                Due.fails("repair in state " + state, Lofts.UNSUPPORTED,
                        () -> loft.repair(0, 0));
            }
            Silkloft open = Lofts.inState(kind, 'o');
            Due.is("repair in state o", open.repair(0, 0), 1);
            Due.is("it stays open", open.stateOf(0), 'o');
        }
    }

    /** "by a rigger who has the licence for that": 5, none of the others. */
    private static void repairNeedsItsLicence() {
        Silkloft loft = Lofts.with("m");
        loft.setLicences(0, 31, 9999);
        loft.setLicences(1, 32, 9999);
        loft.setLicences(2, 0, 9999);
        Due.fails("all but that", Lofts.ARGUMENT, () -> loft.repair(0, 0));
        Due.fails("none", Lofts.ARGUMENT, () -> loft.repair(0, 2));
        Due.is("that alone", loft.repair(0, 1), 1);
    }

    /** "on this day". */
    private static void repairOnTheLastDayOfTheLicence() {
        Silkloft loft = Lofts.with("m");
        loft.setLicences(0, 63, 7);
        loft.goOn(7);
        Due.is("on the last day", loft.repair(0, 0), 1);
        loft.goOn(1);
        Due.fails("a day behind it", Lofts.ARGUMENT, () -> loft.repair(0, 0));
    }

    /** "Returns how often it was repaired." */
    private static void repairsFromOneOn() {
        Silkloft loft = Lofts.with("mr");
        for (int i = 1; i <= 200; i++) {
            Due.is("repairs", loft.repair(0, i % 6), i);
        }
        Due.is("of the other", loft.repair(1, 0), 1);
        Lofts.pack(loft, 0);
        loft.drop(0, false);
        Due.is("behind packing and drop", loft.repair(0, 0), 201);
    }

    private static void groundedAndOldOnesAreRepaired() {
        Silkloft loft = Lofts.inState('r', 'o', 1);
        loft.find(0);
        loft.goOn(2);
        Due.is("out of date", loft.isOut(0), true);
        Due.is("repaired", loft.repair(0, 0), 1);
        Due.is("still grounded", loft.isGrounded(0), true);
    }

    /** "if there is no such canopy", of drop. */
    private static void dropsOfCanopiesThatThereAre() {
        Silkloft none = new Silkloft();
        Due.failsForEach("drop of none", Lofts.INDEX, i -> none.drop(i, true), Lofts.noneOf(0));
        Silkloft loft = Lofts.packed("mr");
        Due.failsForEach("bad drop", Lofts.INDEX, i -> loft.drop(i, false), Lofts.noneOf(2));
        Due.fails("no finding came of them", Lofts.INDEX, () -> loft.grounds(0));
        Due.is("the last", loft.drop(1, true), 1);
        Due.is("the first", loft.drop(0, true), 1);
    }

    /** "if it is not packed", of drop. */
    private static void onlyPackedOnesAreDropped() {
        for (char kind : "mr".toCharArray()) {
            for (char state : "opah".toCharArray()) {
                Silkloft loft = Lofts.inState(kind, state);
                Due.fails("good drop in " + state, Lofts.UNSUPPORTED, () -> loft.drop(0, true));
                Due.fails("bad drop in " + state, Lofts.UNSUPPORTED, () -> loft.drop(0, false));
                Due.fails("no finding", Lofts.INDEX, () -> loft.grounds(0));
                Due.is("its state stays", loft.stateOf(0), state);
            }
            Silkloft packed = Lofts.inState(kind, 'k');
            Due.is("drop in state k", packed.drop(0, true), 1);
            Due.is("it is open then", packed.stateOf(0), 'o');
        }
    }

    /** "A canopy that is packed can be dropped, also if it is grounded or out of date". */
    private static void groundedOnesAreDropped() {
        Silkloft loft = Lofts.packed("mr");
        loft.find(0);
        Due.is("good drop", loft.drop(0, true), 1);
        Due.is("open then", loft.stateOf(0), 'o');
        loft.find(1);
        Due.is("bad drop", loft.drop(1, false), 0);
        Due.is("its own finding", loft.grounds(2), 1);
    }

    private static void oldOnesAreDropped() {
        Silkloft life = Lofts.inState('m', 'k', 1);
        life.goOn(2);
        Due.is("behind its life", life.drop(0, true), 1);
        Silkloft period = Lofts.packed("rr");
        period.goOn(181);
        Due.is("behind the period", period.drop(0, true), 1);
        Due.is("bad, behind the period", period.drop(1, false), 0);
    }

    /** "Returns how many good drops it has in a row." */
    private static void goodDropsInARow() {
        Silkloft loft = Lofts.packed("mr");
        for (int i = 1; i <= 60; i++) {
            Due.is("good drops", loft.drop(0, true), i);
            Lofts.pack(loft, 0);
        }
        Due.is("of the other", loft.drop(1, true), 1);
    }

    private static void badDropEndsTheRow() {
        Silkloft loft = Lofts.packed("m");
        Due.is("bad at first", loft.drop(0, false), 0);
        for (int row = 1; row <= 3; row++) {
            for (int i = 1; i <= row; i++) {
                Lofts.pack(loft, 0);
                Due.is("good", loft.drop(0, true), i);
                loft.repair(0, 0);
            }
            Lofts.pack(loft, 0);
            Due.is("bad", loft.drop(0, false), 0);
        }
        Due.is("mean", loft.meanDrops(), 0.0);
    }

    /** "If it was not good, a finding of it is made, if there are less than 12." */
    private static void badDropIsFoundIfThereAreLessThan12() {
        Silkloft loft = Lofts.packed("mr");
        for (int i = 0; i < 11; i++) {
            loft.find(1);
        }
        Due.is("bad drop", loft.drop(0, false), 0);
        Due.is("the twelfth finding", loft.grounds(11), 1);
        Due.is("it is of the canopy", loft.isGrounded(0), true);
        Due.is("it begins as level 0", loft.widen(11), 1);
        Due.is("nothing was told", loft.tellCause(11, 'h'), '-');
        Due.is("it was not closed", loft.close(11), true);
    }

    private static void badDropIsNotFoundIfThereAre12() {
        Silkloft loft = Lofts.packed("mr");
        for (int i = 0; i < 12; i++) {
            loft.find(1);
        }
        Due.is("bad drop", loft.drop(0, false), 0);
        Due.is("it is open", loft.stateOf(0), 'o');
        Due.is("it is not grounded", loft.isGrounded(0), false);
        Due.fails("no finding more", Lofts.INDEX, () -> loft.grounds(12));
        Due.is("the last is as before", loft.grounds(11), 1);
    }

    private static void goodDropIsNotFound() {
        Silkloft loft = Lofts.packed("mr");
        loft.drop(0, true);
        Due.fails("no finding", Lofts.INDEX, () -> loft.grounds(0));
        Due.is("not grounded", loft.isGrounded(0), false);
        Due.is("the next finding is the first", loft.find(1), 0);
    }

    /** The canopies 0 and 1 are packed on one hook, and a finding of 0 grounds both by it. */
    private static Silkloft byHook() {
        Silkloft loft = Lofts.packed("mr");
        groundByHook(loft);
        return loft;
    }

    private static void groundByHook(Silkloft loft) {
        loft.tellCause(loft.find(0), 'h');
    }

    /** Drops a canopy that is packed, and packs it again, for each sign: + good, - bad. */
    private static void drop(Silkloft loft, int canopy, String drops) {
        for (char sign : drops.toCharArray()) {
            Lofts.dropAndPack(loft, canopy, sign == '+');
        }
    }

    /** Repairs a canopy that is open and packs it. */
    private static void repairAndPack(Silkloft loft, int canopy) {
        loft.repair(canopy, 0);
        Lofts.pack(loft, canopy);
    }

    private static void noDropFrees() {
        Silkloft loft = byHook();
        Due.is("itself", loft.isGrounded(0), true);
        Due.is("the other", loft.isGrounded(1), true);
        Due.is("both", loft.grounds(0), 2);
    }

    /** "two good drops of it came behind this". */
    private static void oneDropDoesNotFree() {
        Silkloft loft = byHook();
        drop(loft, 1, "+");
        Due.is("one", loft.isGrounded(1), true);
        drop(loft, 1, "+");
        Due.is("two", loft.isGrounded(1), false);
        drop(loft, 1, "+");
        Due.is("three", loft.isGrounded(1), false);
    }

    private static void dropsBeforeTheFindingDoNotFree() {
        Silkloft loft = Lofts.packed("mr");
        drop(loft, 1, "+++++");
        groundByHook(loft);
        Due.is("five before", loft.isGrounded(1), true);
    }

    private static void oneBeforeAndOneBehindDoNotFree() {
        Silkloft loft = Lofts.packed("mr");
        drop(loft, 1, "+");
        groundByHook(loft);
        drop(loft, 1, "+");
        Due.is("two in a row, one of them before", loft.isGrounded(1), true);
        drop(loft, 1, "+");
        Due.is("three in a row, one of them before", loft.isGrounded(1), false);
    }

    /** "with no bad one between". */
    private static void badOneBetweenSpoils() {
        Silkloft loft = byHook();
        drop(loft, 1, "+-");
        loft.close(1);
        drop(loft, 1, "+");
        Due.is("good, bad, good", loft.isGrounded(1), true);
        drop(loft, 1, "+");
        Due.is("and good", loft.isGrounded(1), false);
    }

    /** "or behind them". */
    private static void badOneBehindSpoils() {
        Silkloft loft = byHook();
        drop(loft, 1, "++");
        Due.is("good, good", loft.isGrounded(1), false);
        drop(loft, 1, "-");
        loft.close(1);
        Due.is("and bad", loft.isGrounded(1), true);
        Due.is("by the first finding", loft.grounds(0), 2);
    }

    private static void badOneBeforeBothIsNoMatter() {
        Silkloft loft = byHook();
        drop(loft, 1, "-");
        loft.close(1);
        drop(loft, 1, "++");
        Due.is("bad, good, good", loft.isGrounded(1), false);
    }

    /** "whatever repairs are between". */
    private static void repairsBetweenAreNoMatter() {
        Silkloft loft = byHook();
        loft.drop(1, true);
        repairAndPack(loft, 1);
        Due.is("good, repair", loft.isGrounded(1), true);
        loft.drop(1, true);
        Due.is("good, repair, good", loft.isGrounded(1), false);
        repairAndPack(loft, 1);
        Due.is("and repair", loft.isGrounded(1), false);
    }

    private static void packingAfterwardsIsNoMatter() {
        Silkloft loft = byHook();
        drop(loft, 1, "++");
        Due.is("on the same hook again", loft.isGrounded(1), false);
        loft.hire(1, 1, 0);
        loft.back(1, true, false);
        Lofts.pack(loft, 1);
        Due.is("and once more", loft.isGrounded(1), false);
        loft.goOn(150);
        Due.is("and later", loft.isGrounded(1), false);
    }

    /** "and if the finding is of this canopy itself, both behind some repair of it". */
    private static void itselfNeedsARepair() {
        Silkloft loft = byHook();
        drop(loft, 0, "+++");
        Due.is("three good drops", loft.isGrounded(0), true);
        loft.drop(0, true);
        repairAndPack(loft, 0);
        Due.is("and a repair behind them", loft.isGrounded(0), true);
        drop(loft, 0, "+");
        Due.is("and one more", loft.isGrounded(0), true);
        drop(loft, 0, "+");
        Due.is("and two more", loft.isGrounded(0), false);
    }

    private static void itselfNeedsBothDropsBehindTheRepair() {
        Silkloft loft = byHook();
        loft.drop(0, true);
        repairAndPack(loft, 0);
        drop(loft, 0, "+");
        Due.is("one before it, one behind it", loft.isGrounded(0), true);
        drop(loft, 0, "+");
        Due.is("two behind it", loft.isGrounded(0), false);
    }

    /** "that came behind the finding, too". */
    private static void repairBeforeTheFindingDoesNotCount() {
        Silkloft loft = Lofts.packed("mr");
        loft.drop(0, true);
        repairAndPack(loft, 0);
        groundByHook(loft);
        drop(loft, 0, "++");
        Due.is("repair, finding, two good drops", loft.isGrounded(0), true);
        loft.drop(0, true);
        repairAndPack(loft, 0);
        drop(loft, 0, "++");
        Due.is("and repair, two good drops", loft.isGrounded(0), false);
    }

    /** "some repair of it". */
    private static void repairOfAnotherDoesNotCount() {
        Silkloft loft = byHook();
        loft.drop(1, true);
        repairAndPack(loft, 1);
        drop(loft, 0, "++");
        Due.is("the other one repaired", loft.isGrounded(0), true);
    }

    /** "some repair": a later one, between or behind the drops, takes nothing back. */
    private static void laterRepairsTakeNothingBack() {
        Silkloft loft = byHook();
        loft.drop(0, true);
        repairAndPack(loft, 0);
        loft.drop(0, true);
        repairAndPack(loft, 0);
        drop(loft, 0, "+");
        Due.is("repair, good, repair, good", loft.isGrounded(0), false);
        loft.drop(0, true);
        loft.repair(0, 0);
        Due.is("and repair", loft.isGrounded(0), false);
    }

    private static void badDropOfItselfNeedsRepairAnew() {
        Silkloft loft = Lofts.packed("m");
        loft.drop(0, false);
        repairAndPack(loft, 0);
        drop(loft, 0, "++");
        Due.is("repaired and dropped twice", loft.isGrounded(0), false);
        drop(loft, 0, "-");
        drop(loft, 0, "++");
        Due.is("free of the first finding by the old repair", loft.grounds(0), 0);
        Due.is("not of the second", loft.grounds(1), 1);
        Due.is("so grounded", loft.isGrounded(0), true);
        loft.drop(0, true);
        repairAndPack(loft, 0);
        drop(loft, 0, "++");
        Due.is("repaired anew", loft.isGrounded(0), false);
    }

    /** "those that are free of it left out", of grounds. */
    private static void freeOnesAreLeftOut() {
        Silkloft loft = byHook();
        drop(loft, 1, "++");
        Due.is("one of two", loft.grounds(0), 1);
        Due.is("share", loft.groundedShare(), 0.5f);
        loft.drop(0, true);
        repairAndPack(loft, 0);
        drop(loft, 0, "++");
        Due.is("none of two", loft.grounds(0), 0);
        Due.is("share of none", loft.groundedShare(), 0f);
        Due.is("it is not closed", loft.close(0), true);
    }

    /** "two good drops of it": those of the finding's canopy free no other one, nor its repair. */
    private static void eachGetsFreeForItself() {
        Silkloft loft = Lofts.packed("mrm");
        groundByHook(loft);
        loft.drop(0, true);
        repairAndPack(loft, 0);
        drop(loft, 0, "++");
        Due.is("itself is free", loft.isGrounded(0), false);
        Due.is("the second is not", loft.isGrounded(1), true);
        Due.is("nor is the third", loft.isGrounded(2), true);
        drop(loft, 1, "++");
        Due.is("the second then", loft.isGrounded(1), false);
        Due.is("the third still not", loft.isGrounded(2), true);
        Due.is("one is left", loft.grounds(0), 1);
    }

    /** "whether a finding grounds it of which it is not free". */
    private static void freeOfOneFindingNotOfAnother() {
        Silkloft loft = byHook();
        drop(loft, 1, "+");
        groundByHook(loft);
        drop(loft, 1, "+");
        Due.is("free of the first", loft.grounds(0), 1);
        Due.is("not of the second", loft.grounds(1), 2);
        Due.is("so grounded", loft.isGrounded(1), true);
        drop(loft, 1, "+");
        Due.is("free of both", loft.isGrounded(1), false);
    }

    private static void findingBehindTheDropsGroundsAnew() {
        Silkloft loft = byHook();
        drop(loft, 1, "++");
        Due.is("free", loft.isGrounded(1), false);
        groundByHook(loft);
        Due.is("grounded by a later finding", loft.isGrounded(1), true);
    }

    /** Free of a finding that reaches it only later, if the drops came behind the finding. */
    private static void freeOfWhatGroundsItLater() {
        Silkloft loft = Lofts.packed("mr");
        loft.find(0);
        drop(loft, 1, "++");
        loft.widen(0);
        loft.widen(0);
        Due.is("grounded at level 2, but free", loft.isGrounded(1), false);
        Due.is("itself alone", loft.grounds(0), 1);
    }

    private static void tellingTheCauseTakesNothingBack() {
        Silkloft loft = byHook();
        drop(loft, 1, "++");
        for (char cause : "rhlrh".toCharArray()) {
            loft.tellCause(0, cause);
            Due.is("told " + cause, loft.isGrounded(1), false);
        }
    }
}
