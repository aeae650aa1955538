/** The boundary cases of loads, and of the promises 10 to 13, a test each. */
public final class EdgeLoadTest {
    public static void main(String[] args) {
        atMost30Loads();
        boardingLoadsThatThereAre();
        boardingMainsThatThereAre();
        boardingReservesThatThereAre();
        boardingOfEachKindOne();
        onlyPackedMainsBoard();
        onlyPackedReservesBoard();
        groundedOnesDoNotBoard();
        mainBoardsToTheEndOfItsLife();
        reserveBoardsToTheEndOfItsLife();
        reserveBoardsToTheEndOfItsPeriod();
        jumpedLoadTakesNobody();
        atMost6Aboard();
        placeOfOneWhoLeftIsTaken();
        nobodyBoardsTwice();
        leavingLoadsThatThereAre();
        leavingOfNobody();
        leavingOfAllSix();
        lastWhoBoardedLeaves();
        leavingBehindTheJump();
        unfitOnesMayLeave();
        jumpOfLoadsThatThereAre();
        jumpOfNobody();
        jumpOfOneToSix();
        noLoadJumpsTwice();
        groundedOnesDoNotJump();
        mainJumpsToTheEndOfItsLife();
        reserveJumpsToTheEndOfItsLife();
        reserveJumpsToTheEndOfItsPeriod();
        reservesOfNoneOrAll();
        eachBitIsOfOneJumper();
        otherBitsAreOfNoMeaning();
        bitsAreInTheOrderOfBoarding();
        bitsOfThoseWhoLeftAreOfNoMeaning();
        otherLoadsStayAsTheyAre();
        Due.end();
    }

    /** Six pairs, main i and reserve i + 6, and the load 0; so many of them are aboard. */
    private static Silkloft withAboard(int aboard) {
        Silkloft loft = Lofts.packed("mmmmmmrrrrrr");
        loft.load();
        for (int i = 0; i < aboard; i++) {
            loft.board(0, i, i + 6);
        }
        return loft;
    }

    /** "At most 30 loads are numbered from 0"; "if there are 30". */
    private static void atMost30Loads() {
        Silkloft loft = Lofts.packed("mr");
        for (int i = 0; i < 30; i++) {
            Due.is("load", loft.load(), i);
        }
        Due.fails("load 31", Lofts.STATE, () -> loft.load());
        Due.is("the last takes one", loft.board(29, 0, 1), 1);
        Due.is("and jumps", loft.jump(29, 0), 1);
        Due.fails("those that jumped count", Lofts.STATE, () -> loft.load());
    }

    /** "if there is no such load or canopy", of board. */
    private static void boardingLoadsThatThereAre() {
        Silkloft none = Lofts.packed("mr");
        Due.failsForEach("board without loads", Lofts.INDEX, i -> none.board(i, 0, 1),
                Lofts.noneOf(0));
        Silkloft loft = Lofts.packed("mrmr");
        loft.load();
        loft.load();
        Due.failsForEach("board the load", Lofts.INDEX, i -> loft.board(i, 0, 1),
                Lofts.noneOf(2));
        Due.is("the first", loft.board(0, 0, 1), 1);
        Due.is("the last", loft.board(1, 2, 3), 1);
    }

    private static void boardingMainsThatThereAre() {
        Silkloft none = new Silkloft();
        none.load();
        Due.failsForEach("main of none", Lofts.INDEX, i -> none.board(0, i, i), Lofts.noneOf(0));
        Silkloft loft = Lofts.packed("mrm");
        loft.load();
        Due.failsForEach("main", Lofts.INDEX, i -> loft.board(0, i, 1), Lofts.noneOf(3));
        Due.is("the last main", loft.board(0, 2, 1), 1);
    }

    private static void boardingReservesThatThereAre() {
        Silkloft loft = Lofts.packed("mrr");
        loft.load();
        Due.failsForEach("reserve", Lofts.INDEX, i -> loft.board(0, 0, i), Lofts.noneOf(3));
        Due.is("the last reserve", loft.board(0, 0, 2), 1);
    }

    /** "Throws IllegalArgumentException if one is of the wrong kind". */
    private static void boardingOfEachKindOne() {
        Silkloft loft = Lofts.packed("mmrr");
        loft.load();
        Due.fails("two mains", Lofts.ARGUMENT, () -> loft.board(0, 0, 1));
        Due.fails("two reserves", Lofts.ARGUMENT, () -> loft.board(0, 2, 3));
        Due.fails("changed", Lofts.ARGUMENT, () -> loft.board(0, 2, 0));
        Due.fails("one main for both", Lofts.ARGUMENT, () -> loft.board(0, 0, 0));
        Due.fails("one reserve for both", Lofts.ARGUMENT, () -> loft.board(0, 2, 2));
        Due.is("one of each", loft.board(0, 0, 2), 1);
    }

    /** "if one is not packed", of board. */
    private static void onlyPackedMainsBoard() {
        for (char state : "opah".toCharArray()) {
            Silkloft loft = Lofts.inState('m', state);
            loft.addCanopy('r', 3, 3, 9999);
            Lofts.pack(loft, 2, 0);
            int load = loft.load();
            Due.fails("main in state " + state, Lofts.UNSUPPORTED,
                    () -> loft.board(load, 0, 2));
            Due.is("the reserve stays", loft.stateOf(2), 'k');
        }
    }

    private static void onlyPackedReservesBoard() {
        for (char state : "opah".toCharArray()) {
            Silkloft loft = Lofts.inState('r', state);
            loft.addCanopy('m', 3, 3, 9999);
            Lofts.pack(loft, 2, 0);
            int load = loft.load();
            Due.fails("reserve in state " + state, Lofts.UNSUPPORTED,
                    () -> loft.board(load, 2, 0));
            Due.is("the main stays", loft.stateOf(2), 'k');
        }
    }

    private static void groundedOnesDoNotBoard() {
        for (int canopy = 0; canopy < 2; canopy++) {
            Silkloft loft = Lofts.packed("mr");
            loft.load();
            loft.find(canopy);
            Due.fails("grounded " + canopy, Lofts.UNSUPPORTED, () -> loft.board(0, 0, 1));
            loft.close(0);
            Due.is("no more grounded", loft.board(0, 0, 1), 1);
        }
    }

    private static void mainBoardsToTheEndOfItsLife() {
        Silkloft loft = Lofts.inState('m', 'k', 20);
        loft.load();
        loft.goOn(20);
        Due.is("on the last day", loft.board(0, 0, 1), 1);
        loft.leave(0);
        loft.goOn(1);
        Due.fails("a day behind it", Lofts.UNSUPPORTED, () -> loft.board(0, 0, 1));
    }

    private static void reserveBoardsToTheEndOfItsLife() {
        Silkloft loft = Lofts.inState('r', 'k', 20);
        loft.load();
        loft.goOn(20);
        Due.is("on the last day", loft.board(0, 1, 0), 1);
        loft.leave(0);
        loft.goOn(1);
        Due.fails("a day behind it", Lofts.UNSUPPORTED, () -> loft.board(0, 1, 0));
    }

    private static void reserveBoardsToTheEndOfItsPeriod() {
        Silkloft loft = Lofts.packed("mr");
        loft.load();
        loft.goOn(180);
        Due.is("on the last day", loft.board(0, 0, 1), 1);
        loft.leave(0);
        loft.goOn(1);
        Due.fails("a day behind it", Lofts.UNSUPPORTED, () -> loft.board(0, 0, 1));
    }

    /** "or the load has jumped", of board. */
    private static void jumpedLoadTakesNobody() {
        Silkloft loft = withAboard(1);
        loft.jump(0, 0);
        Due.fails("jumped", Lofts.UNSUPPORTED, () -> loft.board(0, 1, 7));
        loft.load();
        Due.is("on the next load", loft.board(1, 1, 7), 1);
    }

    /** "a load takes at most 6"; "Returns how many are aboard". */
    private static void atMost6Aboard() {
        Silkloft loft = withAboard(0);
        loft.addCanopy('m', 9, 9, 99);
        loft.addCanopy('r', 9, 9, 99);
        Lofts.pack(loft, 12);
        Lofts.pack(loft, 13);
        for (int i = 0; i < 6; i++) {
            Due.is("aboard", loft.board(0, i, i + 6), i + 1);
        }
        Due.fails("a seventh", Lofts.STATE, () -> loft.board(0, 12, 13));
        Due.is("his main stays", loft.stateOf(12), 'k');
        Due.is("his reserve stays", loft.stateOf(13), 'k');
        loft.load();
        Due.is("on another load", loft.board(1, 12, 13), 1);
    }

    private static void placeOfOneWhoLeftIsTaken() {
        Silkloft loft = withAboard(6);
        Due.is("one leaves", loft.leave(0), 5);
        Due.is("he boards again", loft.board(0, 5, 11), 6);
        Due.is("all jump", loft.jump(0, 0), 6);
    }

    private static void nobodyBoardsTwice() {
        Silkloft loft = withAboard(1);
        Due.fails("both aboard", Lofts.UNSUPPORTED, () -> loft.board(0, 0, 6));
        Due.fails("main aboard", Lofts.UNSUPPORTED, () -> loft.board(0, 0, 7));
        Due.fails("reserve aboard", Lofts.UNSUPPORTED, () -> loft.board(0, 1, 6));
        loft.load();
        Due.fails("aboard another load", Lofts.UNSUPPORTED, () -> loft.board(1, 0, 7));
        Due.is("two others", loft.board(1, 1, 7), 1);
    }

    /** "if there is no such load", of leave. */
    private static void leavingLoadsThatThereAre() {
        Silkloft none = Lofts.packed("mr");
        Due.failsForEach("leave without loads", Lofts.INDEX, i -> none.leave(i),
                Lofts.noneOf(0));
        Silkloft loft = withAboard(1);
        loft.load();
        loft.board(1, 1, 7);
        Due.failsForEach("leave", Lofts.INDEX, i -> loft.leave(i), Lofts.noneOf(2));
        Due.is("the last load", loft.leave(1), 0);
        Due.is("the first load", loft.leave(0), 0);
    }

    /** "if nobody is aboard", of leave. */
    private static void leavingOfNobody() {
        Silkloft loft = withAboard(0);
        Due.fails("nobody has boarded", Lofts.UNSUPPORTED, () -> loft.leave(0));
        loft.board(0, 0, 6);
        Due.is("one leaves", loft.leave(0), 0);
        Due.fails("all have left", Lofts.UNSUPPORTED, () -> loft.leave(0));
        Due.is("one boards", loft.board(0, 0, 6), 1);
    }

    private static void leavingOfAllSix() {
        Silkloft loft = withAboard(6);
        for (int i = 5; i >= 0; i--) {
            Due.is("still aboard", loft.leave(0), i);
            Due.is("his main", loft.stateOf(i), 'k');
            Due.is("his reserve", loft.stateOf(i + 6), 'k');
        }
        Due.fails("a seventh", Lofts.UNSUPPORTED, () -> loft.leave(0));
    }

    /** "Lets the jumper who boarded last leave". */
    private static void lastWhoBoardedLeaves() {
        Silkloft loft = withAboard(0);
        loft.board(0, 4, 6);
        loft.board(0, 0, 11);
        loft.board(0, 2, 8);
        loft.leave(0);
        Due.is("main of the last", loft.stateOf(2), 'k');
        Due.is("reserve of the last", loft.stateOf(8), 'k');
        Due.is("main of the second", loft.stateOf(0), 'a');
        loft.leave(0);
        Due.is("main of the second then", loft.stateOf(0), 'k');
        Due.is("reserve of the second", loft.stateOf(11), 'k');
        Due.is("main of the first", loft.stateOf(4), 'a');
        Due.is("reserve of the first", loft.stateOf(6), 'a');
    }

    /** "or the load has jumped", of leave. */
    private static void leavingBehindTheJump() {
        Silkloft loft = withAboard(2);
        loft.jump(0, 1);
        Due.fails("jumped", Lofts.UNSUPPORTED, () -> loft.leave(0));
        Due.is("main stays open", loft.stateOf(1), 'o');
        Due.is("reserve stays open", loft.stateOf(6), 'o');
    }

    private static void unfitOnesMayLeave() {
        Silkloft loft = withAboard(2);
        loft.find(1);
        loft.find(7);
        loft.goOn(181);
        Due.is("grounded and out of date", loft.leave(0), 1);
        Due.is("packed as before", loft.packings(7), 1);
    }

    /** "if there is no such load", of jump. */
    private static void jumpOfLoadsThatThereAre() {
        Silkloft none = Lofts.packed("mr");
        Due.failsForEach("jump without loads", Lofts.INDEX, i -> none.jump(i, 0),
                Lofts.noneOf(0));
        Silkloft loft = withAboard(1);
        loft.load();
        loft.board(1, 1, 7);
        Due.failsForEach("jump", Lofts.INDEX, i -> loft.jump(i, 0), Lofts.noneOf(2));
        Due.is("the last load", loft.jump(1, 0), 1);
        Due.is("the first load", loft.jump(0, 0), 1);
    }

    /** "if nobody is aboard", of jump. */
    private static void jumpOfNobody() {
        Silkloft loft = withAboard(0);
        Due.fails("nobody has boarded", Lofts.UNSUPPORTED, () -> loft.jump(0, 0));
        loft.board(0, 0, 6);
        loft.leave(0);
        Due.fails("all have left", Lofts.UNSUPPORTED, () -> loft.jump(0, 1));
        loft.board(0, 0, 6);
        Due.is("one aboard", loft.jump(0, 0), 1);
    }

    /** "Returns how many jumped", 1 to 6; "all mains open". */
    private static void jumpOfOneToSix() {
        for (int aboard = 1; aboard <= 6; aboard++) {
            Silkloft loft = withAboard(aboard);
            Due.is("how many jumped", loft.jump(0, 0), aboard);
            for (int i = 0; i < 6; i++) {
                Due.is("main " + i, loft.stateOf(i), i < aboard ? 'o' : 'k');
                Due.is("its jumps", loft.jumps(i), i < aboard ? 1 : 0);
                Due.is("its reserve", loft.stateOf(i + 6), 'k');
            }
        }
    }

    /** "the load has jumped", of jump. */
    private static void noLoadJumpsTwice() {
        Silkloft loft = withAboard(2);
        loft.jump(0, 0);
        Due.fails("again", Lofts.UNSUPPORTED, () -> loft.jump(0, 3));
        Lofts.pack(loft, 0);
        Lofts.pack(loft, 1);
        Due.fails("packed again", Lofts.UNSUPPORTED, () -> loft.jump(0, 3));
        Due.is("jumps", loft.jumps(0), 1);
        Due.is("reserve", loft.stateOf(6), 'k');
    }

    /** "or a canopy aboard is grounded or out of date", of jump: each of twelve aboard. */
    private static void groundedOnesDoNotJump() {
        Silkloft loft = withAboard(6);
        for (int i = 0; i < 12; i++) {
            loft.find(i);
            Due.fails("grounded " + i, Lofts.UNSUPPORTED, () -> loft.jump(0, 63));
            loft.close(i);
        }
        for (int i = 0; i < 12; i++) {
            Due.is("still aboard", loft.stateOf(i), 'a');
            Due.is("no jump", loft.jumps(i), 0);
        }
        Due.is("none grounded", loft.jump(0, 0), 6);
    }

    private static void mainJumpsToTheEndOfItsLife() {
        for (int days = 20; days <= 21; days++) {
            Silkloft loft = Lofts.inState('m', 'a', 20);
            loft.goOn(days);
            if (days == 20) {
                Due.is("on the last day", loft.jump(0, 0), 1);
            } else {
                Due.fails("a day behind it", Lofts.UNSUPPORTED, () -> loft.jump(0, 0));
            }
        }
    }

    /** Also if nobody needs the reserve. */
    private static void reserveJumpsToTheEndOfItsLife() {
        for (int reserves = 0; reserves < 2; reserves++) {
            int needed = reserves;
            Silkloft loft = Lofts.inState('r', 'a', 20);
            loft.goOn(20);
            Due.is("on the last day", loft.jump(0, needed), 1);
            Silkloft late = Lofts.inState('r', 'a', 20);
            late.goOn(21);
            Due.fails("a day behind it", Lofts.UNSUPPORTED, () -> late.jump(0, needed));
        }
    }

    private static void reserveJumpsToTheEndOfItsPeriod() {
        for (int reserves = 0; reserves < 2; reserves++) {
            int needed = reserves;
            Silkloft loft = withAboard(1);
            loft.goOn(180);
            Due.is("on the last day", loft.jump(0, needed), 1);
            Silkloft late = withAboard(1);
            late.goOn(181);
            Due.fails("a day behind it", Lofts.UNSUPPORTED, () -> late.jump(0, needed));
            late.setPeriod(181);
            Due.is("by a longer period", late.jump(0, needed), 1);
        }
    }

    /** "the reserves of those who need them; the other reserves are packed as before". */
    private static void reservesOfNoneOrAll() {
        Silkloft none = withAboard(6);
        none.jump(0, 0);
        Silkloft all = withAboard(6);
        all.jump(0, 63);
        for (int i = 6; i < 12; i++) {
            Due.is("reserve, none needed", none.stateOf(i), 'k');
            Due.is("its jumps", none.jumps(i), 0);
            Due.is("its packings", none.packings(i), 1);
            Due.is("reserve, all needed", all.stateOf(i), 'o');
            Due.is("its jumps", all.jumps(i), 1);
        }
    }

    /** "2 to the power of each jumper, from 0". */
    private static void eachBitIsOfOneJumper() {
        for (int jumper = 0; jumper < 6; jumper++) {
            Silkloft loft = withAboard(6);
            loft.jump(0, 1 << jumper);
            for (int i = 0; i < 6; i++) {
                Due.is("reserve " + i + " of " + jumper, loft.stateOf(i + 6),
                        i == jumper ? 'o' : 'k');
            }
        }
    }

    /** "other bits are of no meaning": those of 6 and more, and the sign. */
    private static void otherBitsAreOfNoMeaning() {
        int[] sums = {~63, 64, 128, 1 << 30, Integer.MIN_VALUE, Integer.MIN_VALUE + 64};
        for (int sum : sums) {
            Silkloft loft = withAboard(6);
            Due.is("jump by " + sum, loft.jump(0, sum), 6);
            for (int i = 6; i < 12; i++) {
                Due.is("reserve by " + sum, loft.stateOf(i), 'k');
            }
        }
        Silkloft two = withAboard(2);
        Due.is("jump of two by -4", two.jump(0, -4), 2);
        for (int i = 6; i < 12; i++) {
            Due.is("reserve " + i, two.stateOf(i), 'k');
        }
        Silkloft all = withAboard(2);
        Due.is("jump of two by all bits", all.jump(0, -1), 2);
        for (int i = 6; i < 12; i++) {
            Due.is("reserve " + i, all.stateOf(i), i < 8 ? 'o' : 'k');
        }
    }

    /** "in the order of boarding", not by the numbers of the canopies. */
    private static void bitsAreInTheOrderOfBoarding() {
        Silkloft loft = withAboard(0);
        loft.board(0, 5, 8);
        loft.board(0, 1, 11);
        loft.board(0, 3, 6);
        loft.jump(0, 1);
        Due.is("reserve of the first", loft.stateOf(8), 'o');
        Due.is("reserve of the second", loft.stateOf(11), 'k');
        Due.is("reserve of the third", loft.stateOf(6), 'k');
    }

    private static void bitsOfThoseWhoLeftAreOfNoMeaning() {
        Silkloft loft = withAboard(3);
        loft.leave(0);
        loft.leave(0);
        loft.board(0, 5, 11);
        Due.is("jump", loft.jump(0, 0b110), 2);
        Due.is("reserve of the first", loft.stateOf(6), 'k');
        Due.is("reserve of the one who came instead", loft.stateOf(11), 'o');
        Due.is("reserve of one who left", loft.stateOf(7), 'k');
        Due.is("reserve of the other who left", loft.stateOf(8), 'k');
        Due.is("main of one who left", loft.stateOf(1), 'k');
        Due.is("his jumps", loft.jumps(1), 0);
    }

    private static void otherLoadsStayAsTheyAre() {
        Silkloft loft = withAboard(1);
        loft.load();
        loft.board(1, 1, 7);
        loft.find(1);
        Due.is("jump beside a grounded one", loft.jump(0, 63), 1);
        Due.is("the other's main", loft.stateOf(1), 'a');
        Due.is("the other's reserve", loft.stateOf(7), 'a');
        Due.is("the other leaves", loft.leave(1), 0);
    }
}
