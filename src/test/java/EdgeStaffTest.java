/** The boundary cases of days, riggers and canopies, and of the promises 1 to 6, a test each. */
public final class EdgeStaffTest {
    public static void main(String[] args) {
        dayIs0AtFirst();
        newLoftHasNobody();
        eachLoftIsItsOwn();
        atMost8Riggers();
        licencesOfRiggerFrom0To63();
        dayOfRiggerFrom0To9999();
        eachLicenceIsOfOneWork();
        allLicencesButOne();
        licencesHoldOnTheirLastDay();
        licencesHoldOnTheDay0Alone();
        licencesHoldOnTheDay9999();
        licencesAreSetOfRiggersThatThereAre();
        licencesSetFrom0To63();
        dayOfLicencesSetFrom0To9999();
        licencesBeforeAreAnswered();
        licencesAreSetInPlaceOfOthers();
        atMost24Canopies();
        kindsAreTwo();
        clothFrom0To9();
        linesFrom0To9();
        lifeFrom1To9999();
        canopyIsOpenAtFirst();
        periodFrom1To999();
        periodIs180AtFirst();
        daysFrom1To999();
        dayIsNeverAbove9999();
        Due.end();
    }

    /** "The day is 0 at first." */
    private static void dayIs0AtFirst() {
        Silkloft loft = Lofts.packed("mr");
        Due.is("day of a packing", loft.packingOf(0, 0, 'd'), 0);
        Due.is("day on which it is to come back", loft.hire(0, 1, 0), 1);
        Due.is("day then", loft.goOn(1), 1);
    }

    /** "Creates a loft without canopies": nor are there riggers, loads or findings. */
    private static void newLoftHasNobody() {
        Silkloft loft = new Silkloft();
        Due.failsForEach("canopy", Lofts.INDEX, i -> loft.stateOf(i), Lofts.noneOf(0));
        Due.failsForEach("rigger", Lofts.INDEX, i -> loft.setLicences(i, 0, 0), Lofts.noneOf(0));
        Due.failsForEach("load", Lofts.INDEX, i -> loft.leave(i), Lofts.noneOf(0));
        Due.failsForEach("finding", Lofts.INDEX, i -> loft.grounds(i), Lofts.noneOf(0));
    }

    private static void eachLoftIsItsOwn() {
        Silkloft first = Lofts.packed("mr");
        first.find(0);
        first.load();
        first.setPeriod(7);
        first.goOn(5);
        Silkloft second = new Silkloft();
        Due.is("rigger", second.addRigger(0, 0), 0);
        Due.is("canopy", second.addCanopy('m', 0, 0, 1), 0);
        Due.is("grounded", second.isGrounded(0), false);
        Due.is("load", second.load(), 0);
        Due.is("finding", second.find(0), 0);
        Due.is("period", second.setPeriod(1), 180);
        Due.is("day", second.goOn(1), 1);
        Due.is("canopies of the first", first.addCanopy('m', 0, 0, 1), 2);
        Due.is("day of the first", first.goOn(1), 6);
    }

    /** "At most 8 are numbered from 0"; "if there are 8". */
    private static void atMost8Riggers() {
        Silkloft loft = new Silkloft();
        for (int i = 0; i < 8; i++) {
            Due.is("rigger", loft.addRigger(i, 9999), i);
        }
        Due.fails("ninth rigger", Lofts.STATE, () -> loft.addRigger(63, 9999));
        Due.fails("ninth rigger again", Lofts.STATE, () -> loft.addRigger(0, 0));
        for (int i = 0; i < 8; i++) {
            Due.is("licences of the rigger " + i, loft.setLicences(i, 0, 0), i);
        }
        Due.fails("the ninth is none", Lofts.INDEX, () -> loft.setLicences(8, 0, 0));
    }

    /** "licences: the licences, 0 to 63". */
    private static void licencesOfRiggerFrom0To63() {
        Silkloft loft = new Silkloft();
        Due.failsForEach("licences", Lofts.ARGUMENT, i -> loft.addRigger(i, 1),
                Lofts.outside(0, 63));
        Due.failsForEach("licences, day 0", Lofts.ARGUMENT, i -> loft.addRigger(i, 0), 127, 128);
        Due.is("licences 0", loft.addRigger(0, 1), 0);
        Due.is("licences 63", loft.addRigger(63, 1), 1);
        Due.is("they are 0", loft.setLicences(0, 1, 1), 0);
        Due.is("they are 63", loft.setLicences(1, 1, 1), 63);
    }

    /** "until: the last day on which they hold, 0 to 9999". */
    private static void dayOfRiggerFrom0To9999() {
        Silkloft loft = new Silkloft();
        Due.failsForEach("day", Lofts.ARGUMENT, i -> loft.addRigger(1, i),
                Lofts.outside(0, 9999));
        Due.is("day 0", loft.addRigger(1, 0), 0);
        Due.is("day 9999", loft.addRigger(1, 9999), 1);
    }

    /** "a sum of 2 to the power of each work that may be done, 0 to 4 for the steps". */
    private static void eachLicenceIsOfOneWork() {
        for (int work = 0; work < 6; work++) {
            Silkloft loft = Lofts.with("mm");
            int one = loft.addRigger(1 << work, 9999);
            loft.hang(0, 0);
            for (int i = 0; i < 5; i++) {
                if (i == work) {
                    Due.is("step " + i + " by one of " + work, loft.step(0, one), i + 1);
                } else {
                    Due.fails("step " + i + " by one of " + work, Lofts.ARGUMENT,
                            () -> loft.step(0, one));
                    loft.step(0, i % 2);
                }
            }
            if (work == 5) {
                Due.is("repair by one of 5", loft.repair(1, one), 1);
            } else {
                Due.fails("repair by one of " + work, Lofts.ARGUMENT, () -> loft.repair(1, one));
            }
        }
    }

    private static void allLicencesButOne() {
        for (int work = 0; work < 6; work++) {
            Silkloft loft = Lofts.with("mm");
            int one = loft.addRigger(63 - (1 << work), 9999);
            loft.hang(0, 0);
            for (int i = 0; i < 5; i++) {
                if (i == work) {
                    Due.fails("step " + i + " without it", Lofts.ARGUMENT,
                            () -> loft.step(0, one));
                }
                boolean isHis = i != work && i != 3;
                int rigger = isHis ? one : i % 2;
                Due.is("step " + i + " by all but " + work, loft.step(0, rigger), i + 1);
            }
            if (work == 5) {
                Due.fails("repair without it", Lofts.ARGUMENT, () -> loft.repair(1, one));
            } else {
                Due.is("repair by all but " + work, loft.repair(1, one), 1);
            }
        }
    }

    /** "a last day on which they hold": that day, and not the one behind it. */
    private static void licencesHoldOnTheirLastDay() {
        Silkloft loft = new Silkloft();
        loft.addRigger(63, 10);
        loft.addCanopy('m', 0, 0, 99);
        loft.addCanopy('m', 0, 0, 99);
        loft.hang(0, 0);
        loft.goOn(9);
        Due.is("step before it", loft.step(0, 0), 1);
        loft.goOn(1);
        Due.is("step on it", loft.step(0, 0), 2);
        Due.is("repair on it", loft.repair(1, 0), 1);
        loft.goOn(1);
        Due.fails("step behind it", Lofts.ARGUMENT, () -> loft.step(0, 0));
        Due.fails("repair behind it", Lofts.ARGUMENT, () -> loft.repair(1, 0));
    }

    private static void licencesHoldOnTheDay0Alone() {
        Silkloft loft = new Silkloft();
        loft.addRigger(63, 0);
        loft.addCanopy('m', 0, 0, 99);
        Due.is("on the day 0", loft.repair(0, 0), 1);
        loft.goOn(1);
        Due.fails("on the day 1", Lofts.ARGUMENT, () -> loft.repair(0, 0));
    }

    private static void licencesHoldOnTheDay9999() {
        Silkloft loft = new Silkloft();
        loft.addRigger(63, 9998);
        loft.addRigger(63, 9999);
        loft.addCanopy('m', 0, 0, 99);
        Lofts.goOn(loft, 9999);
        Due.fails("until 9998", Lofts.ARGUMENT, () -> loft.repair(0, 0));
        Due.is("until 9999", loft.repair(0, 1), 1);
    }

    /** "Throws IndexOutOfBoundsException if there is no such rigger". */
    private static void licencesAreSetOfRiggersThatThereAre() {
        Silkloft loft = Lofts.staffed();
        Due.failsForEach("rigger", Lofts.INDEX, i -> loft.setLicences(i, 0, 0), Lofts.noneOf(6));
        Due.is("first", loft.setLicences(0, 0, 0), 63);
        Due.is("last", loft.setLicences(5, 0, 0), 63);
    }

    private static void licencesSetFrom0To63() {
        Silkloft loft = Lofts.staffed();
        Due.failsForEach("licences", Lofts.ARGUMENT, i -> loft.setLicences(0, i, 1),
                Lofts.outside(0, 63));
        Due.is("to 0", loft.setLicences(0, 0, 1), 63);
        Due.is("to 63", loft.setLicences(0, 63, 1), 0);
        Due.is("from 63", loft.setLicences(0, 1, 1), 63);
    }

    private static void dayOfLicencesSetFrom0To9999() {
        Silkloft loft = Lofts.with("m");
        Due.failsForEach("day", Lofts.ARGUMENT, i -> loft.setLicences(0, 63, i),
                Lofts.outside(0, 9999));
        Due.is("to the day 0", loft.setLicences(0, 63, 0), 63);
        Due.is("on it", loft.repair(0, 0), 1);
        loft.goOn(1);
        Due.fails("behind it", Lofts.ARGUMENT, () -> loft.repair(0, 0));
        Due.is("to the day 9999", loft.setLicences(0, 63, 9999), 63);
        Lofts.goOn(loft, 9998);
        Due.is("on the last of all days", loft.repair(0, 0), 2);
    }

    /** "Returns the licences before": also if they do not hold any more. */
    private static void licencesBeforeAreAnswered() {
        Silkloft loft = new Silkloft();
        loft.addRigger(21, 0);
        loft.goOn(1);
        Due.is("behind their last day", loft.setLicences(0, 42, 0), 21);
        Due.is("set on a day when they hold no more", loft.setLicences(0, 42, 5), 42);
        Due.is("set to the same", loft.setLicences(0, 1, 5), 42);
    }

    /** "Sets the licences of a rigger anew": none of those before is left. */
    private static void licencesAreSetInPlaceOfOthers() {
        Silkloft loft = Lofts.with("mm");
        loft.setLicences(0, 32, 9999);
        loft.hang(0, 0);
        Due.fails("step without the licence", Lofts.ARGUMENT, () -> loft.step(0, 0));
        Due.is("repair with it", loft.repair(1, 0), 1);
        loft.setLicences(0, 1, 9999);
        Due.fails("repair without it", Lofts.ARGUMENT, () -> loft.repair(1, 0));
        Due.is("step with it", loft.step(0, 0), 1);
        Due.is("of another rigger all are left", loft.setLicences(1, 0, 0), 63);
    }

    /** "At most 24 are numbered from 0"; "if there are 24". */
    private static void atMost24Canopies() {
        Silkloft loft = Lofts.staffed();
        for (int i = 0; i < 24; i++) {
            Due.is("canopy", loft.addCanopy(i < 12 ? 'm' : 'r', 0, 0, 9), i);
        }
        Due.fails("main 25", Lofts.STATE, () -> loft.addCanopy('m', 0, 0, 9));
        Due.fails("reserve 25", Lofts.STATE, () -> loft.addCanopy('r', 0, 0, 9));
        Due.is("the last one", loft.stateOf(23), 'o');
        Due.fails("no canopy 24", Lofts.INDEX, () -> loft.stateOf(24));
        Due.is("the last can be hung", loft.hang(23, 0), 1);
        Due.is("and the first", loft.hang(0, 1), 2);
    }

    /** "Throws IllegalArgumentException if there is no such kind". */
    private static void kindsAreTwo() {
        Silkloft loft = new Silkloft();
        Due.failsForSigns("kind", Lofts.ARGUMENT, c -> loft.addCanopy(c, 0, 0, 1),
                Lofts.signsBut("mr"));
        Due.is("m", loft.addCanopy('m', 0, 0, 1), 0);
        Due.is("r", loft.addCanopy('r', 0, 0, 1), 1);
    }

    /** "cloth: the lot of cloth, 0 to 9". */
    private static void clothFrom0To9() {
        Silkloft loft = new Silkloft();
        Due.failsForEach("cloth", Lofts.ARGUMENT, i -> loft.addCanopy('m', i, 0, 1),
                Lofts.outside(0, 9));
        for (int i = 0; i < 20; i++) {
            Due.is("cloth " + i % 10, loft.addCanopy('m', i % 10, 0, 1), i);
        }
        for (int i = 0; i < 10; i++) {
            loft.find(i);
            loft.tellCause(i, 'c');
            Due.is("with the cloth " + i, loft.grounds(i), 2);
            Due.is("the other one of it", loft.isGrounded(i + 10), true);
        }
    }

    /** "lines: the lot of lines, 0 to 9". */
    private static void linesFrom0To9() {
        Silkloft loft = new Silkloft();
        Due.failsForEach("lines", Lofts.ARGUMENT, i -> loft.addCanopy('r', 0, i, 1),
                Lofts.outside(0, 9));
        for (int i = 0; i < 20; i++) {
            Due.is("lines " + i % 10, loft.addCanopy('r', 0, i % 10, 1), i);
        }
        for (int i = 0; i < 10; i++) {
            loft.find(i);
            loft.tellCause(i, 'l');
            Due.is("with the lines " + i, loft.grounds(i), 2);
            Due.is("the other one of them", loft.isGrounded(i + 10), true);
        }
    }

    /** "life: the life, 1 to 9999". */
    private static void lifeFrom1To9999() {
        Silkloft loft = new Silkloft();
        Due.failsForEach("life", Lofts.ARGUMENT, i -> loft.addCanopy('m', 0, 0, i),
                Lofts.outside(1, 9999));
        Due.is("life 1", loft.addCanopy('m', 0, 0, 1), 0);
        Due.is("life 9998", loft.addCanopy('m', 0, 0, 9998), 1);
        Due.is("life 9999", loft.addCanopy('m', 0, 0, 9999), 2);
        loft.goOn(1);
        Due.is("life 1 on the day 1", loft.isOut(0), false);
        loft.goOn(1);
        Due.is("life 1 on the day 2", loft.isOut(0), true);
        Lofts.goOn(loft, 9997);
        Due.is("life 9998 on the day 9999", loft.isOut(1), true);
        Due.is("life 9999 on the day 9999", loft.isOut(2), false);
    }

    /** "It is open at first": and has nothing behind it. */
    private static void canopyIsOpenAtFirst() {
        Silkloft loft = Lofts.with("mr");
        for (int i = 0; i < 2; i++) {
            Due.is("state", loft.stateOf(i), 'o');
            Due.is("packings", loft.packings(i), 0);
            Due.is("jumps", loft.jumps(i), 0);
            Due.is("sharers", loft.sharers(i), 0);
            Due.is("grounded", loft.isGrounded(i), false);
            Due.is("out of date", loft.isOut(i), false);
        }
        Due.is("drops", loft.meanDrops(), 0.0);
        Due.is("repairs", loft.repair(0, 0), 1);
    }

    /** "days: the days, 1 to 999" of setPeriod. */
    private static void periodFrom1To999() {
        Silkloft loft = new Silkloft();
        Due.failsForEach("period", Lofts.ARGUMENT, i -> loft.setPeriod(i), Lofts.outside(1, 999));
        Due.is("to 1", loft.setPeriod(1), 180);
        Due.is("to 999", loft.setPeriod(999), 1);
        Due.is("from 999", loft.setPeriod(999), 999);
    }

    /** "the period, 180 at first". */
    private static void periodIs180AtFirst() {
        Silkloft loft = Lofts.packed("r");
        loft.goOn(180);
        Due.is("180 days behind packing", loft.isOut(0), false);
        loft.goOn(1);
        Due.is("181 days behind packing", loft.isOut(0), true);
        Due.is("period before", loft.setPeriod(1), 180);
    }

    /** "days: the days, 1 to 999" of goOn. */
    private static void daysFrom1To999() {
        Silkloft loft = new Silkloft();
        Due.failsForEach("days", Lofts.ARGUMENT, i -> loft.goOn(i), Lofts.outside(1, 999));
        Due.is("1 day", loft.goOn(1), 1);
        Due.is("999 days", loft.goOn(999), 1000);
    }

    /** "Throws IllegalStateException if the day would be above 9999". */
    private static void dayIsNeverAbove9999() {
        Silkloft loft = new Silkloft();
        Lofts.goOn(loft, 9000);
        Due.is("to 9000 and 998 more", loft.goOn(998), 9998);
        Due.fails("2 days more", Lofts.STATE, () -> loft.goOn(2));
        Due.fails("999 days more", Lofts.STATE, () -> loft.goOn(999));
        Due.is("1 day more", loft.goOn(1), 9999);
        Due.fails("1 day above", Lofts.STATE, () -> loft.goOn(1));
        Due.fails("999 days above", Lofts.STATE, () -> loft.goOn(999));
        Silkloft other = new Silkloft();
        Lofts.goOn(other, 9001);
        Due.fails("to 10000 at once", Lofts.STATE, () -> other.goOn(999));
        Silkloft third = new Silkloft();
        Lofts.goOn(third, 9000);
        Due.is("to 9999 at once", third.goOn(999), 9999);
    }
}
