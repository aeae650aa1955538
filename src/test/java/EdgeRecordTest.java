/** The boundary cases of what is kept of canopies: the promises 23, 26, 27, 28 and 29. */
public final class EdgeRecordTest {
    public static void main(String[] args) {
        statesOfCanopiesThatThereAre();
        statesAreFive();
        packingsOfCanopiesThatThereAre();
        packingsFromNoneOn();
        packingOfCanopiesThatThereAre();
        packingOfPackingsThatThereAre();
        packingOfOneWithoutPackings();
        thingsOfAPackingAreSeven();
        hooksOfPackings();
        daysOfPackings();
        riggersOfPackings();
        packingsOfOneAmongOthers();
        asManyPackingsAsCallsAllow();
        jumpsOfCanopiesThatThereAre();
        jumpsFromNoneOn();
        jumpsOfReserves();
        whatIsNoJump();
        sharersOfCanopiesThatThereAre();
        sharersWithoutPacking();
        sharersFromNoneToAll();
        sharersOnEachHook();
        sharersWheneverItWas();
        sharersOnSeveralHooksCountOnce();
        packingUnderWayIsNotShared();
        Due.end();
    }

    private static void statesOfCanopiesThatThereAre() {
        Silkloft none = new Silkloft();
        Due.failsForEach("stateOf none", Lofts.INDEX, i -> none.stateOf(i), Lofts.noneOf(0));
        Silkloft loft = Lofts.with("mr");
        Due.failsForEach("stateOf", Lofts.INDEX, i -> loft.stateOf(i), Lofts.noneOf(2));
        Due.is("first", loft.stateOf(0), 'o');
        Due.is("last", loft.stateOf(1), 'o');
    }

    /** "'o' open, 'p' being packed, 'k' packed, 'a' aboard, 'h' on hire". */
    private static void statesAreFive() {
        for (char kind : "mr".toCharArray()) {
            for (char state : "opkah".toCharArray()) {
                Due.is("state", Lofts.inState(kind, state).stateOf(0), state);
            }
        }
    }

    private static void packingsOfCanopiesThatThereAre() {
        Silkloft none = new Silkloft();
        Due.failsForEach("packings of none", Lofts.INDEX, i -> none.packings(i),
                Lofts.noneOf(0));
        Silkloft loft = Lofts.packed("mr");
        Due.failsForEach("packings", Lofts.INDEX, i -> loft.packings(i), Lofts.noneOf(2));
        Due.is("first", loft.packings(0), 1);
        Due.is("last", loft.packings(1), 1);
    }

    /** "Returns the number of packings": those that were brought to their end. */
    private static void packingsFromNoneOn() {
        Silkloft loft = Lofts.with("mr");
        for (int i = 0; i < 5; i++) {
            Due.is("packings", loft.packings(0), i);
            loft.hang(0, i);
            Due.is("one under way is none", loft.packings(0), i);
            loft.breakOff(0);
            Due.is("one broken off is none", loft.packings(0), i);
            Lofts.pack(loft, 0);
            Due.is("one more", loft.packings(0), i + 1);
            loft.drop(0, i % 2 == 0);
        }
        Due.is("of the other", loft.packings(1), 0);
    }

    private static void packingOfCanopiesThatThereAre() {
        Silkloft none = new Silkloft();
        Due.failsForEach("packingOf none", Lofts.INDEX, i -> none.packingOf(i, 0, 'h'),
                Lofts.noneOf(0));
        Silkloft loft = Lofts.packed("mr");
        Due.failsForEach("packingOf", Lofts.INDEX, i -> loft.packingOf(i, 0, 'h'),
                Lofts.noneOf(2));
        Due.is("first", loft.packingOf(0, 0, 'h'), 0);
        Due.is("last", loft.packingOf(1, 0, 'h'), 0);
    }

    /** "index: the index of the packing, from 0"; "no such canopy or packing". */
    private static void packingOfPackingsThatThereAre() {
        Silkloft loft = Lofts.packed("mr");
        Lofts.dropAndPack(loft, 0, true);
        Lofts.dropAndPack(loft, 0, true);
        Due.failsForEach("packing", Lofts.INDEX, i -> loft.packingOf(0, i, 'd'),
                Lofts.noneOf(3));
        Due.failsForEach("packing of the other", Lofts.INDEX, i -> loft.packingOf(1, i, 'd'),
                Lofts.noneOf(1));
        for (int i = 0; i < 3; i++) {
            Due.is("packing " + i, loft.packingOf(0, i, '4'), 1);
        }
    }

    private static void packingOfOneWithoutPackings() {
        Silkloft loft = Lofts.with("mr");
        Lofts.pack(loft, 1);
        Lofts.pack(loft, 0, 2, 0, 0, 0, 0);
        Due.failsForEach("packing", Lofts.INDEX, i -> loft.packingOf(0, i, 'h'),
                Lofts.noneOf(0));
    }

    /** "what: 'h' the hook, 'd' the day, '0' to '4' the rigger of the step". */
    private static void thingsOfAPackingAreSeven() {
        Silkloft loft = Lofts.packed("m");
        Due.failsForSigns("thing", Lofts.ARGUMENT, c -> loft.packingOf(0, 0, c),
                Lofts.signsBut("hd01234"));
        Due.is("h", loft.packingOf(0, 0, 'h'), 0);
        Due.is("d", loft.packingOf(0, 0, 'd'), 0);
        Due.is("0", loft.packingOf(0, 0, '0'), 0);
        Due.is("4", loft.packingOf(0, 0, '4'), 1);
    }

    private static void hooksOfPackings() {
        Silkloft loft = Lofts.with("m");
        for (int i = 0; i < 6; i++) {
            Lofts.pack(loft, 0, 5 - i);
            loft.drop(0, true);
        }
        for (int i = 0; i < 6; i++) {
            Due.is("hook of the packing " + i, loft.packingOf(0, i, 'h'), 5 - i);
        }
    }

    /** The first and the last of all days, and that of the step 4 if the days are several. */
    private static void daysOfPackings() {
        Silkloft loft = Lofts.packed("m");
        loft.drop(0, true);
        loft.hang(0, 0);
        for (int i = 0; i < 5; i++) {
            loft.goOn(100);
            loft.step(0, i);
        }
        Lofts.goOn(loft, 9499);
        Lofts.dropAndPack(loft, 0, true);
        Due.is("day 0", loft.packingOf(0, 0, 'd'), 0);
        Due.is("day of the step 4", loft.packingOf(0, 1, 'd'), 500);
        Due.is("day 9999", loft.packingOf(0, 2, 'd'), 9999);
    }

    /** Each of the 8 riggers in each step. */
    private static void riggersOfPackings() {
        Silkloft loft = Lofts.with("m");
        loft.addRigger(63, 9999);
        loft.addRigger(63, 9999);
        for (int i = 0; i < 8; i++) {
            Lofts.pack(loft, 0, 0, i, (i + 1) % 8, (i + 2) % 8, (i + 3) % 8, (i + 4) % 8);
            loft.drop(0, true);
        }
        for (int i = 0; i < 8; i++) {
            for (int step = 0; step < 5; step++) {
                Due.is("rigger of the step " + step, loft.packingOf(0, i, (char) ('0' + step)),
                        (i + step) % 8);
            }
        }
    }

    private static void packingsOfOneAmongOthers() {
        Silkloft loft = Lofts.with("mrm");
        for (int i = 0; i < 4; i++) {
            for (int canopy = 0; canopy < 3; canopy++) {
                Lofts.pack(loft, canopy, canopy + i % 2);
                loft.drop(canopy, true);
            }
            loft.goOn(1);
        }
        for (int canopy = 0; canopy < 3; canopy++) {
            for (int i = 0; i < 4; i++) {
                Due.is("day", loft.packingOf(canopy, i, 'd'), i);
                Due.is("hook", loft.packingOf(canopy, i, 'h'), canopy + i % 2);
            }
        }
    }

    /** 510 calls: two riggers, two canopies, 72 packings, 70 drops between, and four questions. */
    private static void asManyPackingsAsCallsAllow() {
        Silkloft loft = new Silkloft();
        loft.addRigger(63, 9999);
        loft.addRigger(63, 9999);
        loft.addCanopy('m', 0, 0, 9);
        loft.addCanopy('m', 0, 0, 9);
        Lofts.pack(loft, 0);
        Lofts.pack(loft, 1);
        for (int i = 0; i < 70; i++) {
            Lofts.dropAndPack(loft, i % 2, true);
        }
        Due.is("packings of the first", loft.packings(0), 36);
        Due.is("packings of the last", loft.packings(1), 36);
        Due.is("the last packing", loft.packingOf(1, 35, '4'), 1);
        Due.is("sound", loft.isSound(), true);
    }

    private static void jumpsOfCanopiesThatThereAre() {
        Silkloft none = new Silkloft();
        Due.failsForEach("jumps of none", Lofts.INDEX, i -> none.jumps(i), Lofts.noneOf(0));
        Silkloft loft = Lofts.with("mr");
        Due.failsForEach("jumps", Lofts.INDEX, i -> loft.jumps(i), Lofts.noneOf(2));
        Due.is("first", loft.jumps(0), 0);
        Due.is("last", loft.jumps(1), 0);
    }

    private static void jumpsFromNoneOn() {
        Silkloft loft = Lofts.packed("mr");
        for (int i = 0; i < 30; i++) {
            Due.is("jumps", loft.jumps(0), i);
            loft.load();
            loft.board(i, 0, 1);
            Due.is("aboard is no jump", loft.jumps(0), i);
            loft.jump(i, 0);
            Due.is("one more", loft.jumps(0), i + 1);
            Lofts.pack(loft, 0);
        }
        Due.is("the reserve stayed packed", loft.jumps(1), 0);
    }

    /** "those by which a reserve stayed packed not counted". */
    private static void jumpsOfReserves() {
        Silkloft loft = Lofts.packed("mrmr");
        loft.load();
        loft.board(0, 0, 1);
        loft.board(0, 2, 3);
        loft.jump(0, 2);
        Due.is("first reserve stayed packed", loft.jumps(1), 0);
        Due.is("second reserve was needed", loft.jumps(3), 1);
        Due.is("first main", loft.jumps(0), 1);
        Due.is("second main", loft.jumps(2), 1);
    }

    private static void whatIsNoJump() {
        Silkloft loft = Lofts.packed("mr");
        loft.load();
        loft.board(0, 0, 1);
        loft.leave(0);
        loft.hire(0, 1, 1);
        loft.back(0, true, false);
        loft.drop(1, true);
        Due.fails("nobody aboard", Lofts.UNSUPPORTED, () -> loft.jump(0, 1));
        Due.is("jumps of the main", loft.jumps(0), 0);
        Due.is("jumps of the reserve", loft.jumps(1), 0);
    }

    private static void sharersOfCanopiesThatThereAre() {
        Silkloft none = new Silkloft();
        Due.failsForEach("sharers of none", Lofts.INDEX, i -> none.sharers(i), Lofts.noneOf(0));
        Silkloft loft = Lofts.packed("mr");
        Due.failsForEach("sharers", Lofts.INDEX, i -> loft.sharers(i), Lofts.noneOf(2));
        Due.is("first", loft.sharers(0), 1);
        Due.is("last", loft.sharers(1), 1);
    }

    private static void sharersWithoutPacking() {
        Silkloft loft = Lofts.with("mrm");
        Due.is("no packing at all", loft.sharers(0), 0);
        Lofts.pack(loft, 1);
        Lofts.pack(loft, 2);
        Due.is("others with packings", loft.sharers(0), 0);
        Due.is("it is no sharer", loft.sharers(1), 1);
    }

    /** "with how many others": not itself, and no more than 23. */
    private static void sharersFromNoneToAll() {
        Silkloft loft = Lofts.with("mrmrmrmrmrmrmrmrmrmrmrmr");
        for (int i = 0; i < 24; i++) {
            Lofts.pack(loft, i, 2);
            Due.is("sharers of the first", loft.sharers(0), i);
        }
        Due.is("sharers of the last", loft.sharers(23), 23);
        Due.is("sharers of one between", loft.sharers(11), 23);
    }

    private static void sharersOnEachHook() {
        for (int hook = 0; hook < 6; hook++) {
            Silkloft loft = Lofts.with("mrm");
            Lofts.pack(loft, 0, hook);
            Lofts.pack(loft, 1, hook);
            Lofts.pack(loft, 2, (hook + 1) % 6);
            Due.is("on the hook " + hook, loft.sharers(0), 1);
            Due.is("on the one beside it", loft.sharers(2), 0);
        }
    }

    /** "those that have a packing, whenever, on a hook on which this one has one". */
    private static void sharersWheneverItWas() {
        Silkloft loft = Lofts.with("mr");
        Lofts.pack(loft, 0, 1);
        loft.drop(0, true);
        Lofts.pack(loft, 0, 2);
        loft.goOn(500);
        Lofts.pack(loft, 1, 1);
        Due.is("its earlier packing", loft.sharers(0), 1);
        loft.drop(1, true);
        Lofts.pack(loft, 1, 3);
        Due.is("the earlier packings of both", loft.sharers(0), 1);
        Due.is("the other way round", loft.sharers(1), 1);
    }

    private static void sharersOnSeveralHooksCountOnce() {
        Silkloft loft = Lofts.with("mr");
        for (int hook = 0; hook < 6; hook++) {
            Lofts.pack(loft, 0, hook);
            Lofts.pack(loft, 1, hook);
            loft.drop(0, true);
            loft.drop(1, true);
        }
        Due.is("on six hooks", loft.sharers(0), 1);
        Due.is("the other way round", loft.sharers(1), 1);
    }

    private static void packingUnderWayIsNotShared() {
        Silkloft loft = Lofts.with("mr");
        Lofts.pack(loft, 0, 1);
        Lofts.pack(loft, 1, 1, 0, 0, 0, 0);
        Due.is("four steps", loft.sharers(0), 0);
        Due.is("four steps, the other way round", loft.sharers(1), 0);
        loft.step(1, 1);
        Due.is("five steps", loft.sharers(0), 1);
    }
}
