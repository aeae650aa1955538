import java.lang.reflect.Array;
import java.lang.reflect.Field;

/**
 * The promise 35: a loft whose state does not come of its acts, or with acts that might not be
 * done then, is not sound. No method brings a loft there, so this looks inside of it.
 */
public final class SpoiltTest {
    public static void main(String[] args) throws ReflectiveOperationException {
        if (isHeldInAnotherWay()) {
            System.out.println("the state is held in another way, which this test does not know");
            return;
        }
        spoiltStateIsSeen();
        spoiltPartsAreSeen();
        actsThatMightNotBeDoneAreSeen();
        stepsBehindTheLastDayAreSeen();
        step4ByTheSameIsSeen();
        jumpsBehindLifeAreSeen();
        jumpsBehindThePeriodAreSeen();
        jumpsOfGroundedOnesAreSeen();
        Due.end();
    }

    /** How the state is held is free; none of the fields is there then. */
    private static boolean isHeldInAnotherWay() {
        for (Field field : Silkloft.class.getDeclaredFields()) {
            String name = field.getName();
            if (name.equals("loft") || name.equals("again") || name.equals("diary")) {
                return false;
            }
        }
        return true;
    }

    private static void spoiltStateIsSeen() throws ReflectiveOperationException {
        String[] names = {"riggerCount", "canopyCount", "loadCount", "findingCount", "day",
            "period", "keptSum"};
        for (String name : names) {
            Silkloft loft = Lofts.busy();
            Object state = get(loft, "loft");
            Field field = fieldOf(state, name);
            if (field.getType() == long.class) {
                field.setLong(state, field.getLong(state) + 1);
            } else {
                field.setInt(state, field.getInt(state) - 1);
            }
            Due.is(name + " spoilt", loft.isSound(), false);
        }
    }

    private static void spoiltPartsAreSeen() throws ReflectiveOperationException {
        spoil("riggers", 0, "licences");
        spoil("riggers", 5, "until");
        spoil("canopies", 0, "cloth");
        spoil("canopies", 0, "lines");
        spoil("canopies", 1, "life");
        spoil("canopies", 1, "added");
        spoil("canopies", 3, "stepsDone");
        spoil("canopies", 3, "hook");
        spoil("canopies", 2, "packingCount");
        spoil("canopies", 2, "latestPacking");
        spoil("canopies", 2, "hooksEver");
        spoil("canopies", 2, "jumpCount");
        spoil("canopies", 3, "repairCount");
        spoil("canopies", 5, "goodDrops");
        spoil("canopies", 5, "lastGoodDrop");
        spoil("canopies", 5, "goodDropBefore");
        spoil("canopies", 4, "dueBack");
        spoil("canopies", 4, "deposit");
        spoil("loads", 0, "aboard");
        spoil("findings", 0, "canopy");
        spoil("findings", 0, "packing");
        spoil("findings", 0, "level");
        spoil("findings", 0, "madeBy");
        spoil("findings", 0, "repairedBy");
        String[] rows = {"owners", "hooks", "days", "riggers"};
        for (String row : rows) {
            Silkloft loft = Lofts.busy();
            spoilFirst(row, loft, get(get(loft, "loft"), "book"));
        }
        spoilLastRow();
        Silkloft loft = Lofts.busy();
        spoilFirst("stepRiggers", loft, part(loft, "canopies", 3));
        loft = Lofts.busy();
        spoilFirst("mains", loft, part(loft, "loads", 0));
        loft = Lofts.busy();
        spoilFirst("reserves", loft, part(loft, "loads", 0));
        spoilStates();
        spoilClosedFinding();
    }

    private static void spoilLastRow() throws ReflectiveOperationException {
        Silkloft riggers = Lofts.packed("mr");
        int[] row = (int[]) get(get(get(riggers, "loft"), "book"), "riggers");
        row[9] ^= 1;
        Due.is("last rigger of the last packing spoilt", riggers.isSound(), false);
        Silkloft fewer = Lofts.packed("mr");
        Object book = get(get(fewer, "loft"), "book");
        fieldOf(book, "count").setInt(book, 1);
        Due.is("a packing lost", fewer.isSound(), false);
    }

    private static void spoilStates() throws ReflectiveOperationException {
        Silkloft open = Lofts.busy();
        Object canopy = part(open, "canopies", 4);
        fieldOf(canopy, "state").setChar(canopy, 'o');
        Due.is("state spoilt", open.isSound(), false);
        Silkloft told = Lofts.busy();
        Object finding = part(told, "findings", 0);
        fieldOf(finding, "cause").setChar(finding, 's');
        Due.is("cause spoilt", told.isSound(), false);
        Silkloft closed = Lofts.busy();
        finding = part(closed, "findings", 0);
        fieldOf(finding, "isClosed").setBoolean(finding, true);
        Due.is("closing spoilt", closed.isSound(), false);
        Silkloft jumped = Lofts.busy();
        Object load = part(jumped, "loads", 1);
        fieldOf(load, "hasJumped").setBoolean(load, true);
        Due.is("jump spoilt", jumped.isSound(), false);
    }

    private static void spoilClosedFinding() throws ReflectiveOperationException {
        Silkloft loft = Lofts.packed("mr");
        loft.find(0);
        loft.close(0);
        Object state = get(loft, "loft");
        fieldOf(state, "findingCount").setInt(state, 0);
        Due.is("closed finding lost", loft.isSound(), false);
    }

    private static void spoil(String row, int index, String name)
            throws ReflectiveOperationException {
        Silkloft loft = Lofts.busy();
        Object part = part(loft, row, index);
        Field field = fieldOf(part, name);
        field.setInt(part, field.getInt(part) ^ 1);
        Due.is(row + " " + name + " spoilt", loft.isSound(), false);
    }

    private static void spoilFirst(String name, Silkloft loft, Object owner)
            throws ReflectiveOperationException {
        int[] row = (int[]) get(owner, name);
        row[0] ^= 1;
        Due.is("row " + name + " spoilt", loft.isSound(), false);
    }

    /** Alters the diary so that an act stands in it that was not allowed then. */
    private static void actsThatMightNotBeDoneAreSeen() throws ReflectiveOperationException {
        Silkloft loft = Lofts.packed("mr");
        loft.load();
        loft.board(0, 0, 1);
        loft.jump(0, 0);
        int[] rows = rows(loft);
        int licencesOfFirst = 1;
        rows[licencesOfFirst] = 0;
        Due.is("a step without licence", loft.isSound(), false);
        rows[licencesOfFirst] = 63;
        Due.is("as it was", loft.isSound(), true);
        int lifeOfMain = 6 * 5 + 4;
        rows[lifeOfMain] = 0;
        Due.is("a canopy without life", loft.isSound(), false);
        rows[lifeOfMain] = 9999;
        Due.is("as it was again", loft.isSound(), true);
        // Diary and state agree now, so that nothing but the rule of the step is broken.
        Object rigger = part(loft, "riggers", 0);
        fieldOf(rigger, "licences").setInt(rigger, 1);
        rows[licencesOfFirst] = 1;
        Due.is("a step without licence, state like it", loft.isSound(), false);
    }

    /** "each step was done by one who might then": on that day. */
    private static void stepsBehindTheLastDayAreSeen() throws ReflectiveOperationException {
        Silkloft loft = Lofts.with("m");
        loft.goOn(50);
        Lofts.pack(loft, 0);
        int[] rows = rows(loft);
        int lastDayOfFirst = 2;
        for (int day = 50; day >= 49; day--) {
            Object rigger = part(loft, "riggers", 0);
            fieldOf(rigger, "until").setInt(rigger, day);
            rows[lastDayOfFirst] = day;
            Due.is("steps by one until the day " + day, loft.isSound(), day == 50);
        }
    }

    private static void step4ByTheSameIsSeen() throws ReflectiveOperationException {
        Silkloft loft = Lofts.packed("m");
        int step4 = 12;
        long handsOfOneAlone = 1L | 1L << 8 | 1L << 16 | 1L << 24 | 1L << 32;
        Object canopy = part(loft, "canopies", 0);
        ((int[]) get(canopy, "stepRiggers"))[4] = 0;
        fieldOf(canopy, "handsEver").setLong(canopy, handsOfOneAlone);
        ((int[]) get(get(get(loft, "loft"), "book"), "riggers"))[4] = 0;
        rows(loft)[step4 * 5 + 2] = 0;
        Due.is("a step 4 by the one of the step 3", loft.isSound(), false);
    }

    /** "each jump by canopies that were neither grounded nor out of date then". */
    private static void jumpsBehindLifeAreSeen() throws ReflectiveOperationException {
        Silkloft loft = jumpedOnDay50();
        int lifeOfMain = 6 * 5 + 4;
        for (int life = 50; life >= 49; life--) {
            Object canopy = part(loft, "canopies", 0);
            fieldOf(canopy, "life").setInt(canopy, life);
            rows(loft)[lifeOfMain] = life;
            Due.is("a jump with a main of the life " + life, loft.isSound(), life == 50);
        }
    }

    private static void jumpsBehindThePeriodAreSeen() throws ReflectiveOperationException {
        Silkloft loft = jumpedOnDay50();
        int periodSet = 8 * 5 + 1;
        for (int period = 50; period >= 49; period--) {
            Object state = get(loft, "loft");
            fieldOf(state, "period").setInt(state, period);
            rows(loft)[periodSet] = period;
            Due.is("a jump in a period of " + period, loft.isSound(), period == 50);
        }
    }

    /** Changes the acts of closing a finding and of the jump for each other. */
    private static void jumpsOfGroundedOnesAreSeen() throws ReflectiveOperationException {
        for (int canopy = 0; canopy < 2; canopy++) {
            Silkloft loft = Lofts.packed("mr");
            loft.load();
            loft.board(0, 0, 1);
            loft.find(canopy);
            loft.close(0);
            loft.jump(0, 0);
            Due.is("finding, closed, jump", loft.isSound(), true);
            int closing = (8 + 12 + 3) * 5;
            int[] rows = rows(loft);
            for (int i = closing; i < closing + 5; i++) {
                int closed = rows[i];
                rows[i] = rows[i + 5];
                rows[i + 5] = closed;
            }
            Due.is("finding of " + canopy + ", jump, closed", loft.isSound(), false);
        }
    }

    /** The canopies 0 and 1, added by the acts 6 and 7; the act 8 sets the period. */
    private static Silkloft jumpedOnDay50() {
        Silkloft loft = Lofts.with("mr");
        loft.setPeriod(500);
        Lofts.pack(loft, 0);
        Lofts.pack(loft, 1);
        loft.load();
        loft.board(0, 0, 1);
        loft.goOn(50);
        loft.jump(0, 0);
        return loft;
    }

    private static int[] rows(Silkloft loft) throws ReflectiveOperationException {
        return (int[]) get(get(loft, "diary"), "rows");
    }

    private static Object part(Silkloft loft, String row, int index)
            throws ReflectiveOperationException {
        return Array.get(get(get(loft, "loft"), row), index);
    }

    private static Object get(Object owner, String name) throws ReflectiveOperationException {
        return fieldOf(owner, name).get(owner);
    }

    private static Field fieldOf(Object owner, String name) throws ReflectiveOperationException {
        Field field = owner.getClass().getDeclaredField(name);
        field.setAccessible(true);
        return field;
    }
}
