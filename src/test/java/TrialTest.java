/** The promises 19 and 20, and how a canopy gets free of findings (18, 24). */
public final class TrialTest {
    public static void main(String[] args) {
        repairsAreCounted();
        repairsAreRefused();
        dropsAreCounted();
        dropsAreRefused();
        groundedAndOldOnesAreDropped();
        badDropsAreFound();
        badDropWithoutRoomForItsFinding();
        othersGetFreeByTwoDrops();
        dropsBeforeAreOfNoUse();
        badDropsSpoil();
        ownNeedsRepair();
        repairMustComeBehindTheFinding();
        anyRepairBehindTheFindingWill();
        freedomIsOfEachFinding();
        Due.end();
    }

    private static void repairsAreCounted() {
        Silkloft loft = Lofts.with("mr");
        Due.is("repair", loft.repair(0, 0), 1);
        Due.is("again", loft.repair(0, 1), 2);
        Due.is("the other", loft.repair(1, 0), 1);
        Due.is("state", loft.stateOf(0), 'o');
    }

    private static void repairsAreRefused() {
        Silkloft loft = Lofts.packed("mrm");
        loft.addCanopy('m', 0, 0, 9);
        loft.setLicences(3, 31, 9999);
        loft.setLicences(4, 32, 10);
        Due.fails("canopy -1", Lofts.INDEX, () -> loft.repair(-1, 0));
        Due.fails("canopy 4", Lofts.INDEX, () -> loft.repair(4, 0));
        Due.fails("rigger -1", Lofts.INDEX, () -> loft.repair(3, -1));
        Due.fails("rigger 6", Lofts.INDEX, () -> loft.repair(3, 6));
        Due.fails("packed, rigger 6", Lofts.INDEX, () -> loft.repair(0, 6));
        Due.fails("packed, no licence", Lofts.UNSUPPORTED, () -> loft.repair(0, 3));
        Due.fails("packed", Lofts.UNSUPPORTED, () -> loft.repair(0, 0));
        loft.load();
        loft.board(0, 0, 1);
        loft.hire(2, 1, 0);
        Due.fails("aboard", Lofts.UNSUPPORTED, () -> loft.repair(0, 0));
        Due.fails("on hire", Lofts.UNSUPPORTED, () -> loft.repair(2, 0));
        Due.fails("no licence", Lofts.ARGUMENT, () -> loft.repair(3, 3));
        loft.goOn(10);
        Due.is("on the last day", loft.repair(3, 4), 1);
        loft.goOn(1);
        Due.fails("behind it", Lofts.ARGUMENT, () -> loft.repair(3, 4));
        loft.hang(3, 0);
        Due.fails("being packed", Lofts.UNSUPPORTED, () -> loft.repair(3, 0));
    }

    private static void dropsAreCounted() {
        Silkloft loft = Lofts.packed("mr");
        Due.is("good", loft.drop(0, true), 1);
        Due.is("state", loft.stateOf(0), 'o');
        Due.is("repair between", loft.repair(0, 0), 1);
        Lofts.pack(loft, 0);
        Due.is("good again", loft.drop(0, true), 2);
        Due.is("the other", loft.drop(1, true), 1);
        Lofts.pack(loft, 0);
        Due.is("bad", loft.drop(0, false), 0);
        Due.is("state then", loft.stateOf(0), 'o');
        Lofts.pack(loft, 0);
        Due.is("good from the beginning", loft.drop(0, true), 1);
        Due.is("packings stay", loft.packings(0), 4);
    }

    private static void dropsAreRefused() {
        Silkloft loft = Lofts.packed("mrm");
        Due.fails("canopy -1", Lofts.INDEX, () -> loft.drop(-1, true));
        Due.fails("canopy 3", Lofts.INDEX, () -> loft.drop(3, false));
        loft.load();
        loft.board(0, 0, 1);
        Due.fails("aboard", Lofts.UNSUPPORTED, () -> loft.drop(1, true));
        loft.leave(0);
        loft.hire(2, 1, 0);
        Due.fails("on hire", Lofts.UNSUPPORTED, () -> loft.drop(2, false));
        loft.drop(0, true);
        Due.fails("open", Lofts.UNSUPPORTED, () -> loft.drop(0, true));
        loft.hang(0, 0);
        Due.fails("being packed", Lofts.UNSUPPORTED, () -> loft.drop(0, true));
        Due.fails("no finding came of it", Lofts.INDEX, () -> loft.grounds(0));
    }

    private static void groundedAndOldOnesAreDropped() {
        Silkloft loft = Lofts.packed("mr");
        loft.find(0);
        Due.is("grounded", loft.drop(0, true), 1);
        loft.goOn(181);
        Due.is("out of date", loft.isOut(1), true);
        Due.is("drop of it", loft.drop(1, true), 1);
    }

    private static void badDropsAreFound() {
        Silkloft loft = Lofts.packed("mr");
        loft.drop(0, true);
        Due.fails("good drops make none", Lofts.INDEX, () -> loft.grounds(0));
        loft.drop(1, false);
        Due.is("finding of a bad drop", loft.grounds(0), 1);
        Due.is("grounded", loft.isGrounded(1), true);
        Due.is("the other", loft.isGrounded(0), false);
        Due.is("its level", loft.widen(0), 1);
        Due.is("its packing", loft.tellCause(0, 'h'), '-');
        Due.is("grounded by its hook", loft.grounds(0), 2);
    }

    private static void badDropWithoutRoomForItsFinding() {
        Silkloft loft = Lofts.packed("mr");
        for (int i = 0; i < 11; i++) {
            loft.close(loft.find(1));
        }
        loft.drop(0, false);
        Due.is("the twelfth finding", loft.grounds(11), 1);
        loft.close(11);
        Lofts.pack(loft, 0);
        Due.is("bad drop then", loft.drop(0, false), 0);
        Due.is("state", loft.stateOf(0), 'o');
        Due.is("no finding", loft.isGrounded(0), false);
        Due.fails("none more", Lofts.INDEX, () -> loft.grounds(12));
    }

    /** Two canopies on one hook, and a finding of the first by which both are grounded. */
    private static Silkloft byHook() {
        Silkloft loft = Lofts.packed("mr");
        loft.find(0);
        loft.tellCause(0, 'h');
        return loft;
    }

    private static void othersGetFreeByTwoDrops() {
        Silkloft loft = byHook();
        Lofts.dropAndPack(loft, 1, true);
        Due.is("one drop", loft.isGrounded(1), true);
        loft.drop(1, true);
        Due.is("two drops", loft.isGrounded(1), false);
        Due.is("left out", loft.grounds(0), 1);
        Due.is("the canopy itself", loft.isGrounded(0), true);
        Lofts.pack(loft, 1);
        Due.is("packed again on that hook", loft.isGrounded(1), false);
        Silkloft repaired = byHook();
        repaired.drop(1, true);
        repaired.repair(1, 0);
        Lofts.pack(repaired, 1);
        repaired.drop(1, true);
        Due.is("a repair between is of no matter", repaired.isGrounded(1), false);
        repaired.repair(1, 0);
        Due.is("nor is one behind", repaired.isGrounded(1), false);
        repaired.tellCause(0, 'l');
        repaired.tellCause(0, 'h');
        Due.is("nor the cause told anew", repaired.isGrounded(1), false);
    }

    private static void dropsBeforeAreOfNoUse() {
        Silkloft loft = Lofts.packed("mr");
        Lofts.dropAndPack(loft, 1, true);
        Lofts.dropAndPack(loft, 1, true);
        loft.find(0);
        loft.tellCause(0, 'h');
        Due.is("two drops before", loft.isGrounded(1), true);
        Lofts.dropAndPack(loft, 1, true);
        Due.is("one before, one behind", loft.isGrounded(1), true);
        loft.drop(1, true);
        Due.is("two behind", loft.isGrounded(1), false);
    }

    private static void badDropsSpoil() {
        Silkloft loft = byHook();
        Lofts.dropAndPack(loft, 1, true);
        Lofts.dropAndPack(loft, 1, false);
        loft.close(1);
        Lofts.dropAndPack(loft, 1, true);
        Due.is("a bad one between", loft.isGrounded(1), true);
        Lofts.dropAndPack(loft, 1, true);
        Due.is("two good ones", loft.isGrounded(1), false);
        Lofts.dropAndPack(loft, 1, false);
        loft.close(2);
        Due.is("a bad one behind", loft.isGrounded(1), true);
        Lofts.dropAndPack(loft, 1, true);
        Due.is("and one good one", loft.isGrounded(1), true);
        loft.drop(1, true);
        Due.is("and another", loft.isGrounded(1), false);
    }

    private static void ownNeedsRepair() {
        Silkloft loft = byHook();
        Lofts.dropAndPack(loft, 0, true);
        loft.drop(0, true);
        Due.is("without repair", loft.isGrounded(0), true);
        loft.repair(0, 0);
        Due.is("repaired behind", loft.isGrounded(0), true);
        Lofts.pack(loft, 0);
        Lofts.dropAndPack(loft, 0, true);
        Due.is("one drop behind the repair", loft.isGrounded(0), true);
        loft.drop(0, true);
        Due.is("two drops behind the repair", loft.isGrounded(0), false);
        Due.is("left out", loft.grounds(0), 1);
        Due.is("the other stays", loft.isGrounded(1), true);
    }

    private static void repairMustComeBehindTheFinding() {
        Silkloft loft = Lofts.with("mr");
        loft.repair(0, 0);
        Lofts.pack(loft, 0);
        Lofts.pack(loft, 1);
        loft.find(0);
        Lofts.dropAndPack(loft, 0, true);
        loft.drop(0, true);
        Due.is("repaired before the finding", loft.isGrounded(0), true);
        loft.drop(1, true);
        loft.repair(1, 0);
        Lofts.pack(loft, 0);
        Lofts.dropAndPack(loft, 0, true);
        loft.drop(0, true);
        Due.is("another one repaired", loft.isGrounded(0), true);
    }

    private static void anyRepairBehindTheFindingWill() {
        Silkloft loft = Lofts.with("mr");
        loft.find(0);
        loft.repair(0, 0);
        Lofts.pack(loft, 0);
        loft.drop(0, true);
        loft.repair(0, 0);
        Lofts.pack(loft, 0);
        loft.drop(0, true);
        Due.is("a second repair between", loft.isGrounded(0), false);
        loft.repair(0, 0);
        Due.is("a third behind", loft.isGrounded(0), false);
        Lofts.pack(loft, 0);
        loft.drop(0, false);
        loft.close(1);
        Due.is("bad one behind", loft.isGrounded(0), true);
        Lofts.pack(loft, 0);
        Lofts.dropAndPack(loft, 0, true);
        loft.drop(0, true);
        Due.is("two good ones, the old repair", loft.isGrounded(0), false);
    }

    private static void freedomIsOfEachFinding() {
        Silkloft loft = Lofts.packed("mr");
        loft.find(0);
        loft.drop(0, true);
        loft.repair(0, 0);
        loft.find(0);
        Lofts.pack(loft, 0);
        Lofts.dropAndPack(loft, 0, true);
        loft.drop(0, true);
        Due.is("free of the first", loft.grounds(0), 0);
        Due.is("not of the second", loft.grounds(1), 1);
        Due.is("so grounded", loft.isGrounded(0), true);
        loft.repair(0, 0);
        Lofts.pack(loft, 0);
        Lofts.dropAndPack(loft, 0, true);
        loft.drop(0, true);
        Due.is("free of both", loft.isGrounded(0), false);
    }
}
