/** The promises 10 to 13 and 28: loads, and the jumps of canopies. */
public final class LoadTest {
    public static void main(String[] args) {
        loadsAreNumbered();
        jumpersBoard();
        wrongKindsAreRefused();
        boardingRefusesTheUnfit();
        boardingRefusesInOrder();
        lastJumperLeaves();
        leavingIsRefused();
        loadsJump();
        onlyBitsOfJumpersCount();
        jumpingIsRefused();
        jumpsAreCounted();
        Due.end();
    }

    private static void loadsAreNumbered() {
        Silkloft loft = new Silkloft();
        for (int i = 0; i < 30; i++) {
            Due.is("load", loft.load(), i);
        }
        Due.fails("load 31", Lofts.STATE, () -> loft.load());
    }

    private static void jumpersBoard() {
        Silkloft loft = Lofts.packed("mmmmmmmrrrrrrr");
        loft.load();
        loft.load();
        for (int i = 0; i < 6; i++) {
            Due.is("board", loft.board(1, i, i + 7), i + 1);
            Due.is("state of the main", loft.stateOf(i), 'a');
            Due.is("state of the reserve", loft.stateOf(i + 7), 'a');
        }
        Due.fails("a seventh", Lofts.STATE, () -> loft.board(1, 6, 13));
        Due.is("it stays", loft.stateOf(6), 'k');
        Due.is("on the other load", loft.board(0, 6, 13), 1);
        Due.fails("unfit on a full load", Lofts.UNSUPPORTED, () -> loft.board(1, 6, 13));
    }

    private static void wrongKindsAreRefused() {
        Silkloft loft = Lofts.packed("mmrr");
        loft.load();
        Due.fails("load -1", Lofts.INDEX, () -> loft.board(-1, 0, 2));
        Due.fails("load 1", Lofts.INDEX, () -> loft.board(1, 0, 2));
        Due.fails("main -1", Lofts.INDEX, () -> loft.board(0, -1, 2));
        Due.fails("main 4", Lofts.INDEX, () -> loft.board(0, 4, 2));
        Due.fails("reserve -1", Lofts.INDEX, () -> loft.board(0, 0, -1));
        Due.fails("reserve 4", Lofts.INDEX, () -> loft.board(0, 0, 4));
        Due.fails("two mains", Lofts.ARGUMENT, () -> loft.board(0, 0, 1));
        Due.fails("two reserves", Lofts.ARGUMENT, () -> loft.board(0, 2, 3));
        Due.fails("changed for each other", Lofts.ARGUMENT, () -> loft.board(0, 2, 0));
        Due.fails("one twice", Lofts.ARGUMENT, () -> loft.board(0, 0, 0));
        Due.is("right kinds", loft.board(0, 0, 2), 1);
    }

    private static void boardingRefusesTheUnfit() {
        Silkloft loft = Lofts.packed("mmmrrr");
        loft.load();
        loft.drop(0, true);
        loft.drop(3, true);
        Due.fails("open main", Lofts.UNSUPPORTED, () -> loft.board(0, 0, 4));
        Due.fails("open reserve", Lofts.UNSUPPORTED, () -> loft.board(0, 1, 3));
        loft.hang(0, 0);
        Due.fails("main being packed", Lofts.UNSUPPORTED, () -> loft.board(0, 0, 4));
        int ofMain = loft.find(1);
        Due.fails("grounded main", Lofts.UNSUPPORTED, () -> loft.board(0, 1, 4));
        loft.close(ofMain);
        int ofReserve = loft.find(4);
        Due.fails("grounded reserve", Lofts.UNSUPPORTED, () -> loft.board(0, 1, 4));
        loft.close(ofReserve);
        loft.hire(2, 9, 0);
        loft.hire(5, 9, 0);
        Due.fails("main on hire", Lofts.UNSUPPORTED, () -> loft.board(0, 2, 4));
        Due.fails("reserve on hire", Lofts.UNSUPPORTED, () -> loft.board(0, 1, 5));
        loft.goOn(181);
        Due.fails("reserve out of date", Lofts.UNSUPPORTED, () -> loft.board(0, 1, 4));
        loft.setPeriod(181);
        Due.is("in date", loft.board(0, 1, 4), 1);
        Due.fails("both aboard", Lofts.UNSUPPORTED, () -> loft.board(0, 1, 4));
    }

    private static void boardingRefusesInOrder() {
        Silkloft loft = Lofts.staffed();
        loft.addCanopy('m', 0, 0, 5);
        loft.addCanopy('r', 1, 1, 999);
        loft.addCanopy('m', 2, 2, 999);
        loft.load();
        loft.load();
        Due.fails("no load, two mains", Lofts.INDEX, () -> loft.board(2, 0, 2));
        Due.fails("open, two mains", Lofts.ARGUMENT, () -> loft.board(0, 0, 2));
        for (int i = 0; i < 3; i++) {
            Lofts.pack(loft, i);
        }
        loft.board(0, 2, 1);
        loft.jump(0, 0);
        Due.fails("jumped, two mains", Lofts.ARGUMENT, () -> loft.board(0, 0, 0));
        Due.fails("jumped", Lofts.UNSUPPORTED, () -> loft.board(0, 0, 1));
        loft.goOn(6);
        Due.fails("main out of date", Lofts.UNSUPPORTED, () -> loft.board(1, 0, 1));
        Lofts.pack(loft, 2);
        Due.is("another main", loft.board(1, 2, 1), 1);
    }

    private static void lastJumperLeaves() {
        Silkloft loft = Lofts.packed("mmrr");
        loft.load();
        loft.board(0, 1, 3);
        loft.goOn(5);
        loft.board(0, 0, 2);
        Due.is("leave", loft.leave(0), 1);
        Due.is("main of the last", loft.stateOf(0), 'k');
        Due.is("reserve of the last", loft.stateOf(2), 'k');
        Due.is("main of the first", loft.stateOf(1), 'a');
        Due.is("reserve of the first", loft.stateOf(3), 'a');
        Due.is("leave again", loft.leave(0), 0);
        Due.is("main of the first then", loft.stateOf(1), 'k');
        Due.is("packed as before", loft.packingOf(3, 0, 'd'), 0);
        Due.is("no packing more", loft.packings(3), 1);
        Due.is("board once more", loft.board(0, 1, 2), 1);
        Due.is("no jumps", loft.jumps(1), 0);
    }

    private static void leavingIsRefused() {
        Silkloft loft = Lofts.packed("mr");
        Due.fails("no loads", Lofts.INDEX, () -> loft.leave(0));
        loft.load();
        Due.fails("load -1", Lofts.INDEX, () -> loft.leave(-1));
        Due.fails("load 1", Lofts.INDEX, () -> loft.leave(1));
        Due.fails("nobody aboard", Lofts.UNSUPPORTED, () -> loft.leave(0));
        loft.board(0, 0, 1);
        loft.jump(0, 1);
        Due.fails("jumped", Lofts.UNSUPPORTED, () -> loft.leave(0));
        Due.is("main stays open", loft.stateOf(0), 'o');
    }

    private static void loadsJump() {
        Silkloft loft = Lofts.packed("mmmrrr");
        loft.load();
        loft.board(0, 2, 5);
        loft.board(0, 0, 4);
        loft.board(0, 1, 3);
        loft.goOn(9);
        Due.is("jump", loft.jump(0, 0b101), 3);
        for (int i = 0; i < 3; i++) {
            Due.is("state of a main", loft.stateOf(i), 'o');
        }
        Due.is("reserve of the first", loft.stateOf(5), 'o');
        Due.is("reserve of the second", loft.stateOf(4), 'k');
        Due.is("reserve of the third", loft.stateOf(3), 'o');
        Due.is("packed as before", loft.packings(4), 1);
        loft.goOn(172);
        Due.is("its period goes on", loft.isOut(4), true);
    }

    private static void onlyBitsOfJumpersCount() {
        Silkloft loft = Lofts.packed("mmrrmr");
        loft.load();
        loft.board(0, 0, 2);
        loft.board(0, 1, 3);
        Due.is("other bits", loft.jump(0, ~3), 2);
        Due.is("first reserve", loft.stateOf(2), 'k');
        Due.is("second reserve", loft.stateOf(3), 'k');
        loft.load();
        loft.board(1, 4, 5);
        Due.is("all bits", loft.jump(1, -1), 1);
        Due.is("its reserve", loft.stateOf(5), 'o');
        Due.is("reserves of others", loft.stateOf(2), 'k');
    }

    private static void jumpingIsRefused() {
        Silkloft loft = Lofts.staffed();
        loft.addCanopy('m', 0, 0, 50);
        loft.addCanopy('r', 1, 1, 999);
        Lofts.pack(loft, 0);
        Lofts.pack(loft, 1);
        Due.fails("no loads", Lofts.INDEX, () -> loft.jump(0, 0));
        loft.load();
        Due.fails("load -1", Lofts.INDEX, () -> loft.jump(-1, 0));
        Due.fails("load 1", Lofts.INDEX, () -> loft.jump(1, 0));
        Due.fails("nobody aboard", Lofts.UNSUPPORTED, () -> loft.jump(0, 0));
        loft.board(0, 0, 1);
        int ofMain = loft.find(0);
        Due.fails("grounded main", Lofts.UNSUPPORTED, () -> loft.jump(0, 0));
        loft.close(ofMain);
        int ofReserve = loft.find(1);
        Due.fails("grounded reserve", Lofts.UNSUPPORTED, () -> loft.jump(0, 0));
        loft.close(ofReserve);
        loft.setPeriod(40);
        loft.goOn(41);
        Due.fails("reserve out of date", Lofts.UNSUPPORTED, () -> loft.jump(0, 1));
        loft.setPeriod(999);
        loft.goOn(10);
        Due.fails("main out of date", Lofts.UNSUPPORTED, () -> loft.jump(0, 0));
        Due.is("still aboard", loft.stateOf(0), 'a');
        Due.is("none has jumped", loft.jumps(0), 0);
        Due.is("leave", loft.leave(0), 0);
        loft.addCanopy('m', 0, 0, 999);
        Lofts.pack(loft, 2);
        loft.board(0, 2, 1);
        Due.is("jump", loft.jump(0, 0), 1);
        Due.fails("jumped", Lofts.UNSUPPORTED, () -> loft.jump(0, 0));
    }

    private static void jumpsAreCounted() {
        Silkloft loft = Lofts.packed("mr");
        Due.is("none yet", loft.jumps(0), 0);
        for (int i = 0; i < 3; i++) {
            loft.load();
            loft.board(i, 0, 1);
            loft.jump(i, i == 1 ? 1 : 0);
            Due.is("jumps of the main", loft.jumps(0), i + 1);
            Due.is("jumps of the reserve", loft.jumps(1), i == 0 ? 0 : 1);
            Lofts.pack(loft, 0);
            if (i == 1) {
                Lofts.pack(loft, 1);
            }
        }
        loft.drop(0, true);
        Due.is("a drop is no jump", loft.jumps(0), 3);
        Due.fails("jumps(-1)", Lofts.INDEX, () -> loft.jumps(-1));
        Due.fails("jumps(2)", Lofts.INDEX, () -> loft.jumps(2));
    }
}
