import java.lang.reflect.Array;
import java.lang.reflect.Field;

/** The promise 35: a loft is sound, and one whose state does not come of its acts is not. */
public final class SoundTest {
    public static void main(String[] args) throws ReflectiveOperationException {
        loftsAreSound();
        checkingChangesNothing();
        spoiltStateIsSeen();
        spoiltPartsAreSeen();
        actsThatMightNotBeDoneAreSeen();
        manyCallsDoNoHarm();
        Due.end();
    }

    /** A loft with something of everything. */
    private static Silkloft busy() {
        Silkloft loft = Lofts.packed("mrmrmm");
        loft.setPeriod(90);
        loft.goOn(2);
        loft.load();
        loft.board(0, 0, 1);
        loft.hire(2, 1, 40);
        loft.drop(3, false);
        loft.repair(3, 0);
        loft.goOn(9);
        loft.back(2, true, false);
        loft.hire(4, 9, 70);
        loft.hang(3, 2);
        loft.step(3, 4);
        Lofts.dropAndPack(loft, 5, true);
        Lofts.dropAndPack(loft, 5, true);
        loft.load();
        return loft;
    }

    private static void loftsAreSound() {
        Silkloft loft = new Silkloft();
        Due.is("new", loft.isSound(), true);
        loft.addRigger(31, 5);
        loft.addRigger(31, 9);
        loft.addCanopy('m', 0, 0, 9);
        loft.addCanopy('r', 0, 0, 9);
        Lofts.pack(loft, 0);
        Lofts.pack(loft, 1);
        loft.load();
        loft.board(0, 0, 1);
        loft.jump(0, 1);
        loft.setLicences(0, 0, 0);
        loft.setLicences(1, 0, 0);
        loft.goOn(20);
        loft.find(0);
        Due.is("what held then, not now", loft.isSound(), true);
        Due.is("busy", busy().isSound(), true);
    }

    private static void checkingChangesNothing() {
        Silkloft loft = busy();
        for (int i = 0; i < 5; i++) {
            Due.is("again", loft.isSound(), true);
        }
        Due.is("a step goes on", loft.step(3, 0), 2);
        Due.is("held", loft.held(), 70);
        Due.is("kept", loft.kept(), 40);
        Due.is("a load goes on", loft.jump(0, 0), 1);
        Due.is("then", loft.isSound(), true);
    }

    private static void spoiltStateIsSeen() throws ReflectiveOperationException {
        String[] names = {"riggerCount", "canopyCount", "loadCount", "findingCount", "day",
            "period", "keptSum"};
        for (String name : names) {
            Silkloft loft = busy();
            Object state = get(loft, "loft");
            Field field = fieldOf(state, name);
            if (field.getType() == long.class) {
                field.setLong(state, field.getLong(state) + 1);
            } else {
                field.setInt(state, field.getInt(state) - 1);
            }
            Due.is(name + " spoilt", loft.isSound(), false);
        }
    }

    private static void spoiltPartsAreSeen() throws ReflectiveOperationException {
        spoil("riggers", 0, "licences");
        spoil("riggers", 5, "until");
        spoil("canopies", 0, "cloth");
        spoil("canopies", 0, "lines");
        spoil("canopies", 1, "life");
        spoil("canopies", 1, "added");
        spoil("canopies", 3, "stepsDone");
        spoil("canopies", 3, "hook");
        spoil("canopies", 2, "packingCount");
        spoil("canopies", 2, "latestPacking");
        spoil("canopies", 2, "hooksEver");
        spoil("canopies", 2, "jumpCount");
        spoil("canopies", 3, "repairCount");
        spoil("canopies", 5, "goodDrops");
        spoil("canopies", 5, "lastGoodDrop");
        spoil("canopies", 5, "goodDropBefore");
        spoil("canopies", 4, "dueBack");
        spoil("canopies", 4, "deposit");
        spoil("loads", 0, "aboard");
        spoil("findings", 0, "canopy");
        spoil("findings", 0, "packing");
        spoil("findings", 0, "level");
        spoil("findings", 0, "madeBy");
        spoil("findings", 0, "repairedBy");
        spoilRow("owners");
        spoilRow("hooks");
        spoilRow("days");
        spoilRow("riggers");
        spoilStates();
    }

    private static void spoilStates() throws ReflectiveOperationException {
        Silkloft open = busy();
        Object canopy = Array.get(get(get(open, "loft"), "canopies"), 4);
        fieldOf(canopy, "state").setChar(canopy, 'o');
        Due.is("state spoilt", open.isSound(), false);
        Silkloft told = busy();
        Object finding = Array.get(get(get(told, "loft"), "findings"), 0);
        fieldOf(finding, "cause").setChar(finding, 's');
        Due.is("cause spoilt", told.isSound(), false);
        Silkloft closed = busy();
        finding = Array.get(get(get(closed, "loft"), "findings"), 0);
        fieldOf(finding, "isClosed").setBoolean(finding, true);
        Due.is("closing spoilt", closed.isSound(), false);
        Silkloft jumped = busy();
        Object load = Array.get(get(get(jumped, "loft"), "loads"), 1);
        fieldOf(load, "hasJumped").setBoolean(load, true);
        Due.is("jump spoilt", jumped.isSound(), false);
    }

    private static void spoil(String row, int index, String name)
            throws ReflectiveOperationException {
        Silkloft loft = busy();
        Object part = Array.get(get(get(loft, "loft"), row), index);
        Field field = fieldOf(part, name);
        field.setInt(part, field.getInt(part) ^ 1);
        Due.is(row + " " + name + " spoilt", loft.isSound(), false);
    }

    private static void spoilRow(String name) throws ReflectiveOperationException {
        Silkloft loft = busy();
        int[] row = (int[]) get(get(get(loft, "loft"), "book"), name);
        row[1] ^= 1;
        Due.is("row " + name + " spoilt", loft.isSound(), false);
    }

    /** Alters the diary so that an act stands in it that was not allowed then. */
    private static void actsThatMightNotBeDoneAreSeen() throws ReflectiveOperationException {
        Silkloft loft = Lofts.packed("mr");
        loft.load();
        loft.board(0, 0, 1);
        loft.jump(0, 0);
        int[] rows = (int[]) get(get(loft, "diary"), "rows");
        int licencesOfFirst = 1;
        rows[licencesOfFirst] = 0;
        Due.is("a step without licence", loft.isSound(), false);
        rows[licencesOfFirst] = 63;
        Due.is("as it was", loft.isSound(), true);
        int lifeOfMain = 6 * 5 + 4;
        rows[lifeOfMain] = 0;
        Due.is("a canopy without life", loft.isSound(), false);
        rows[lifeOfMain] = 9999;
        Due.is("as it was again", loft.isSound(), true);
    }

    private static void manyCallsDoNoHarm() {
        Silkloft loft = new Silkloft();
        loft.addRigger(63, 9999);
        loft.addCanopy('m', 0, 0, 1);
        for (int i = 0; i < 509; i++) {
            loft.setPeriod(1 + i);
        }
        Due.is("call 512", loft.isSound(), true);
        for (int i = 0; i < 600; i++) {
            loft.setPeriod(1 + i);
            loft.isSound();
        }
        Due.is("behind the 512th call nothing is due, and nothing breaks", loft.held(), 0);
    }

    private static Object get(Object owner, String name) throws ReflectiveOperationException {
        return fieldOf(owner, name).get(owner);
    }

    private static Field fieldOf(Object owner, String name) throws ReflectiveOperationException {
        Field field = owner.getClass().getDeclaredField(name);
        field.setAccessible(true);
        return field;
    }
}
