/** The promises 2 to 6 and 25: riggers, canopies and days. */
public final class StaffTest {
    public static void main(String[] args) {
        riggersAreNumbered();
        riggersOutOfRangeAreRefused();
        licencesAreSetAnew();
        wrongLicencesAreRefused();
        canopiesAreNumbered();
        wrongCanopiesAreRefused();
        periodIsSet();
        daysGoBy();
        daysEndAt9999();
        lifeEnds();
        reservesAreOutByThePeriod();
        Due.end();
    }

    private static void riggersAreNumbered() {
        Silkloft loft = new Silkloft();
        for (int i = 0; i < 8; i++) {
            Due.is("addRigger", loft.addRigger(i * 9, i * 1428), i);
        }
        Due.fails("ninth rigger", Lofts.STATE, () -> loft.addRigger(0, 0));
        Due.fails("wrong ninth rigger", Lofts.ARGUMENT, () -> loft.addRigger(64, 0));
    }

    private static void riggersOutOfRangeAreRefused() {
        Silkloft loft = new Silkloft();
        Due.fails("licences -1", Lofts.ARGUMENT, () -> loft.addRigger(-1, 0));
        Due.fails("licences 64", Lofts.ARGUMENT, () -> loft.addRigger(64, 0));
        Due.fails("until -1", Lofts.ARGUMENT, () -> loft.addRigger(0, -1));
        Due.fails("until 10000", Lofts.ARGUMENT, () -> loft.addRigger(0, 10000));
        Due.is("edges", loft.addRigger(0, 0), 0);
        Due.is("other edges", loft.addRigger(63, 9999), 1);
    }

    private static void licencesAreSetAnew() {
        Silkloft loft = new Silkloft();
        loft.addRigger(5, 100);
        loft.addRigger(7, 100);
        loft.addCanopy('m', 0, 0, 9);
        Due.is("setLicences", loft.setLicences(0, 63, 0), 5);
        Due.is("again", loft.setLicences(0, 0, 9999), 63);
        Due.is("the other", loft.setLicences(1, 1, 100), 7);
        loft.hang(0, 0);
        Due.fails("without licence", Lofts.ARGUMENT, () -> loft.step(0, 0));
        loft.setLicences(0, 1, 4);
        loft.goOn(5);
        Due.fails("too late", Lofts.ARGUMENT, () -> loft.step(0, 0));
        loft.setLicences(0, 1, 5);
        Due.is("on the last day", loft.step(0, 0), 1);
    }

    private static void wrongLicencesAreRefused() {
        Silkloft loft = new Silkloft();
        Due.fails("no rigger", Lofts.INDEX, () -> loft.setLicences(0, 0, 0));
        loft.addRigger(5, 100);
        Due.fails("rigger 1", Lofts.INDEX, () -> loft.setLicences(1, 64, 0));
        Due.fails("rigger -1", Lofts.INDEX, () -> loft.setLicences(-1, 0, 0));
        Due.fails("licences -1", Lofts.ARGUMENT, () -> loft.setLicences(0, -1, 0));
        Due.fails("licences 64", Lofts.ARGUMENT, () -> loft.setLicences(0, 64, 0));
        Due.fails("until -1", Lofts.ARGUMENT, () -> loft.setLicences(0, 0, -1));
        Due.fails("until 10000", Lofts.ARGUMENT, () -> loft.setLicences(0, 0, 10000));
        Due.is("nothing was changed", loft.setLicences(0, 63, 9999), 5);
    }

    private static void canopiesAreNumbered() {
        Silkloft loft = new Silkloft();
        for (int i = 0; i < 24; i++) {
            Due.is("addCanopy", loft.addCanopy(i % 2 == 0 ? 'm' : 'r', i % 10, 9 - i % 10, 1), i);
            Due.is("its state", loft.stateOf(i), 'o');
        }
        Due.fails("canopy 25", Lofts.STATE, () -> loft.addCanopy('m', 0, 0, 1));
        Due.fails("wrong canopy 25", Lofts.ARGUMENT, () -> loft.addCanopy('k', 0, 0, 1));
    }

    private static void wrongCanopiesAreRefused() {
        Silkloft loft = new Silkloft();
        Due.fails("kind q", Lofts.ARGUMENT, () -> loft.addCanopy('q', 0, 0, 1));
        Due.fails("kind M", Lofts.ARGUMENT, () -> loft.addCanopy('M', 0, 0, 1));
        Due.fails("cloth -1", Lofts.ARGUMENT, () -> loft.addCanopy('m', -1, 0, 1));
        Due.fails("cloth 10", Lofts.ARGUMENT, () -> loft.addCanopy('m', 10, 0, 1));
        Due.fails("lines -1", Lofts.ARGUMENT, () -> loft.addCanopy('r', 0, -1, 1));
        Due.fails("lines 10", Lofts.ARGUMENT, () -> loft.addCanopy('r', 0, 10, 1));
        Due.fails("life 0", Lofts.ARGUMENT, () -> loft.addCanopy('m', 0, 0, 0));
        Due.fails("life 10000", Lofts.ARGUMENT, () -> loft.addCanopy('m', 0, 0, 10000));
        Due.is("edges", loft.addCanopy('m', 0, 0, 1), 0);
        Due.is("other edges", loft.addCanopy('r', 9, 9, 9999), 1);
    }

    private static void periodIsSet() {
        Silkloft loft = new Silkloft();
        Due.is("first period", loft.setPeriod(1), 180);
        Due.is("then", loft.setPeriod(999), 1);
        Due.fails("period 0", Lofts.ARGUMENT, () -> loft.setPeriod(0));
        Due.fails("period 1000", Lofts.ARGUMENT, () -> loft.setPeriod(1000));
        Due.fails("period -5", Lofts.ARGUMENT, () -> loft.setPeriod(-5));
        Due.is("nothing was changed", loft.setPeriod(7), 999);
    }

    private static void daysGoBy() {
        Silkloft loft = new Silkloft();
        Due.is("one day", loft.goOn(1), 1);
        Due.is("999 days", loft.goOn(999), 1000);
        Due.fails("0 days", Lofts.ARGUMENT, () -> loft.goOn(0));
        Due.fails("1000 days", Lofts.ARGUMENT, () -> loft.goOn(1000));
        Due.fails("-1 days", Lofts.ARGUMENT, () -> loft.goOn(-1));
        Due.is("nothing was changed", loft.goOn(1), 1001);
    }

    private static void daysEndAt9999() {
        Silkloft loft = new Silkloft();
        Lofts.goOn(loft, 9990);
        Due.fails("day 10000", Lofts.STATE, () -> loft.goOn(10));
        Due.fails("1000 days then", Lofts.ARGUMENT, () -> loft.goOn(1000));
        Due.is("day 9999", loft.goOn(9), 9999);
        Due.fails("day after", Lofts.STATE, () -> loft.goOn(1));
    }

    private static void lifeEnds() {
        Silkloft loft = Lofts.staffed();
        Due.fails("isOut without canopies", Lofts.INDEX, () -> loft.isOut(0));
        loft.addCanopy('m', 0, 0, 10);
        loft.goOn(3);
        loft.addCanopy('r', 0, 0, 10);
        loft.goOn(7);
        Due.is("as old as its life", loft.isOut(0), false);
        loft.goOn(1);
        Due.is("older", loft.isOut(0), true);
        Due.is("added later", loft.isOut(1), false);
        loft.goOn(2);
        Due.is("as old", loft.isOut(1), false);
        Lofts.pack(loft, 1);
        Due.is("as old and packed", loft.isOut(1), false);
        loft.goOn(1);
        Due.is("older and packed", loft.isOut(1), true);
        Due.fails("isOut(-1)", Lofts.INDEX, () -> loft.isOut(-1));
        Due.fails("isOut(2)", Lofts.INDEX, () -> loft.isOut(2));
    }

    private static void reservesAreOutByThePeriod() {
        Silkloft loft = Lofts.with("mrrrr");
        loft.setPeriod(20);
        loft.hang(1, 0);
        for (int i = 0; i < 4; i++) {
            loft.step(1, 0);
        }
        loft.goOn(5);
        loft.step(1, 1);
        for (int i = 2; i < 5; i++) {
            Lofts.pack(loft, i);
        }
        Lofts.pack(loft, 0);
        loft.load();
        loft.board(0, 0, 2);
        loft.hire(3, 30, 9);
        loft.drop(4, true);
        loft.goOn(20);
        Due.is("on the last day of the period", loft.isOut(1), false);
        Due.is("aboard on the last day", loft.isOut(2), false);
        Due.is("on hire on the last day", loft.isOut(3), false);
        loft.goOn(1);
        Due.is("main", loft.isOut(0), false);
        Due.is("packed", loft.isOut(1), true);
        Due.is("aboard", loft.isOut(2), true);
        Due.is("on hire", loft.isOut(3), true);
        Due.is("open", loft.isOut(4), false);
        loft.hang(4, 1);
        Due.is("being packed", loft.isOut(4), false);
        loft.setPeriod(21);
        Due.is("by a longer period", loft.isOut(1), false);
        loft.setPeriod(1);
        Due.is("by a shorter one", loft.isOut(1), true);
        loft.drop(1, true);
        Lofts.pack(loft, 1);
        Due.is("packed again", loft.isOut(1), false);
    }
}
