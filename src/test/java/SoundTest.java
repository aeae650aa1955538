import java.lang.reflect.Array;
import java.lang.reflect.Field;

/** The promise 35: a loft is sound, and one whose state does not come of its acts is not. */
public final class SoundTest {
    public static void main(String[] args) throws ReflectiveOperationException {
        loftsAreSound();
        checkingChangesNothing();
        soundTwice();
        spoiltStateIsSeen();
        spoiltPartsAreSeen();
        actsThatMightNotBeDoneAreSeen();
        jumpsThatMightNotBeDoneAreSeen();
        allCallsMayBeActs();
        manyCallsDoNoHarm();
        Due.end();
    }

    /** A loft with something of everything. */
    private static Silkloft busy() {
        Silkloft loft = Lofts.packed("mrmrmm");
        loft.setPeriod(90);
        loft.goOn(2);
        loft.load();
        loft.board(0, 0, 1);
        loft.hire(2, 1, 40);
        loft.drop(3, false);
        loft.repair(3, 0);
        loft.goOn(9);
        loft.back(2, true, false);
        loft.hire(4, 9, 70);
        loft.hang(3, 2);
        loft.step(3, 4);
        Lofts.dropAndPack(loft, 5, true);
        Lofts.dropAndPack(loft, 5, true);
        loft.load();
        return loft;
    }

    private static void loftsAreSound() {
        Silkloft loft = new Silkloft();
        Due.is("new", loft.isSound(), true);
        loft.addRigger(31, 5);
        loft.addRigger(31, 9);
        loft.addCanopy('m', 0, 0, 9);
        loft.addCanopy('r', 0, 0, 9);
        Lofts.pack(loft, 0);
        Lofts.pack(loft, 1);
        loft.load();
        loft.board(0, 0, 1);
        loft.jump(0, 1);
        loft.setLicences(0, 0, 0);
        loft.setLicences(1, 0, 0);
        loft.goOn(20);
        loft.find(0);
        Due.is("what held then, not now", loft.isSound(), true);
        Due.is("busy", busy().isSound(), true);
    }

    private static void checkingChangesNothing() {
        Silkloft loft = busy();
        for (int i = 0; i < 5; i++) {
            Due.is("again", loft.isSound(), true);
        }
        Due.is("a step goes on", loft.step(3, 0), 2);
        Due.is("held", loft.held(), 70);
        Due.is("kept", loft.kept(), 40);
        Due.is("a load goes on", loft.jump(0, 0), 1);
        Due.is("then", loft.isSound(), true);
    }

    /** Each loft bears something that must not be left over from one check to the next. */
    private static void soundTwice() {
        Silkloft loft = Lofts.with("mrmr");
        Lofts.pack(loft, 0, 3, 0, 0, 0, 0, 1);
        Lofts.pack(loft, 1, 2, 2, 2, 2, 2, 3);
        Lofts.pack(loft, 2, 2, 2, 2, 2, 2, 3);
        loft.find(0);
        loft.tellCause(0, 'h');
        loft.load();
        loft.board(0, 2, 1);
        loft.leave(0);
        Lofts.pack(loft, 3, 2, 2, 2, 2, 2, 3);
        loft.drop(2, true);
        Lofts.pack(loft, 2, 3, 2, 2, 2, 2, 3);
        soundTwice("hooks", loft);
        loft = Lofts.with("mrm");
        Lofts.pack(loft, 0, 3, 0, 0, 0, 0, 1);
        Lofts.pack(loft, 1, 2, 2, 2, 2, 2, 3);
        Lofts.pack(loft, 2, 2, 2, 2, 2, 2, 3);
        loft.find(0);
        loft.tellCause(0, 'r');
        loft.load();
        loft.board(0, 2, 1);
        loft.jump(0, 0);
        Lofts.pack(loft, 2, 2, 2, 0, 2, 2, 3);
        soundTwice("riggers", loft);
        loft = Lofts.packed("mr");
        loft.drop(0, true);
        soundTwice("drops", loft);
        loft = Lofts.packed("mr");
        loft.goOn(5);
        loft.hire(1, 1, 5);
        loft.setPeriod(1);
        soundTwice("period", loft);
        loft = Lofts.packed("mr");
        loft.find(0);
        loft.widen(0);
        loft.close(0);
        soundTwice("findings", loft);
        loft = Lofts.packed("mr");
        loft.load();
        loft.board(0, 0, 1);
        loft.jump(0, 0);
        soundTwice("loads", loft);
    }

    private static void soundTwice(String what, Silkloft loft) {
        Due.is(what, loft.isSound(), true);
        Due.is(what + " again", loft.isSound(), true);
    }

    private static void spoiltStateIsSeen() throws ReflectiveOperationException {
        String[] names = {"riggerCount", "canopyCount", "loadCount", "findingCount", "day",
            "period", "keptSum"};
        for (String name : names) {
            Silkloft loft = busy();
            Object state = get(loft, "loft");
            Field field = fieldOf(state, name);
            if (field.getType() == long.class) {
                field.setLong(state, field.getLong(state) + 1);
            } else {
                field.setInt(state, field.getInt(state) - 1);
            }
            Due.is(name + " spoilt", loft.isSound(), false);
        }
    }

    private static void spoiltPartsAreSeen() throws ReflectiveOperationException {
        spoil("riggers", 0, "licences");
        spoil("riggers", 5, "until");
        spoil("canopies", 0, "cloth");
        spoil("canopies", 0, "lines");
        spoil("canopies", 1, "life");
        spoil("canopies", 1, "added");
        spoil("canopies", 3, "stepsDone");
        spoil("canopies", 3, "hook");
        spoil("canopies", 2, "packingCount");
        spoil("canopies", 2, "latestPacking");
        spoil("canopies", 2, "hooksEver");
        spoil("canopies", 2, "jumpCount");
        spoil("canopies", 3, "repairCount");
        spoil("canopies", 5, "goodDrops");
        spoil("canopies", 5, "lastGoodDrop");
        spoil("canopies", 5, "goodDropBefore");
        spoil("canopies", 4, "dueBack");
        spoil("canopies", 4, "deposit");
        spoil("loads", 0, "aboard");
        spoil("findings", 0, "canopy");
        spoil("findings", 0, "packing");
        spoil("findings", 0, "level");
        spoil("findings", 0, "madeBy");
        spoil("findings", 0, "repairedBy");
        String[] rows = {"owners", "hooks", "days", "riggers"};
        for (String row : rows) {
            Silkloft loft = busy();
            spoilFirst(row, loft, get(get(loft, "loft"), "book"));
        }
        Silkloft loft = busy();
        spoilFirst("stepRiggers", loft, part(loft, "canopies", 3));
        loft = busy();
        spoilFirst("mains", loft, part(loft, "loads", 0));
        loft = busy();
        spoilFirst("reserves", loft, part(loft, "loads", 0));
        spoilStates();
        spoilClosedFinding();
    }

    private static void spoilStates() throws ReflectiveOperationException {
        Silkloft open = busy();
        Object canopy = part(open, "canopies", 4);
        fieldOf(canopy, "state").setChar(canopy, 'o');
        Due.is("state spoilt", open.isSound(), false);
        Silkloft told = busy();
        Object finding = part(told, "findings", 0);
        fieldOf(finding, "cause").setChar(finding, 's');
        Due.is("cause spoilt", told.isSound(), false);
        Silkloft closed = busy();
        finding = part(closed, "findings", 0);
        fieldOf(finding, "isClosed").setBoolean(finding, true);
        Due.is("closing spoilt", closed.isSound(), false);
        Silkloft jumped = busy();
        Object load = part(jumped, "loads", 1);
        fieldOf(load, "hasJumped").setBoolean(load, true);
        Due.is("jump spoilt", jumped.isSound(), false);
    }

    private static void spoilClosedFinding() throws ReflectiveOperationException {
        Silkloft loft = Lofts.packed("mr");
        loft.find(0);
        loft.close(0);
        Object state = get(loft, "loft");
        fieldOf(state, "findingCount").setInt(state, 0);
        Due.is("closed finding lost", loft.isSound(), false);
    }

    private static void spoil(String row, int index, String name)
            throws ReflectiveOperationException {
        Silkloft loft = busy();
        Object part = part(loft, row, index);
        Field field = fieldOf(part, name);
        field.setInt(part, field.getInt(part) ^ 1);
        Due.is(row + " " + name + " spoilt", loft.isSound(), false);
    }

    private static void spoilFirst(String name, Silkloft loft, Object owner)
            throws ReflectiveOperationException {
        int[] row = (int[]) get(owner, name);
        row[0] ^= 1;
        Due.is("row " + name + " spoilt", loft.isSound(), false);
    }

    /** Alters the diary so that an act stands in it that was not allowed then. */
    private static void actsThatMightNotBeDoneAreSeen() throws ReflectiveOperationException {
        Silkloft loft = Lofts.packed("mr");
        loft.load();
        loft.board(0, 0, 1);
        loft.jump(0, 0);
        int[] rows = (int[]) get(get(loft, "diary"), "rows");
        int licencesOfFirst = 1;
        rows[licencesOfFirst] = 0;
        Due.is("a step without licence", loft.isSound(), false);
        rows[licencesOfFirst] = 63;
        Due.is("as it was", loft.isSound(), true);
        int lifeOfMain = 6 * 5 + 4;
        rows[lifeOfMain] = 0;
        Due.is("a canopy without life", loft.isSound(), false);
        rows[lifeOfMain] = 9999;
        Due.is("as it was again", loft.isSound(), true);
        // Diary and state agree now, so that nothing but the rule of the step is broken.
        Object rigger = part(loft, "riggers", 0);
        fieldOf(rigger, "licences").setInt(rigger, 1);
        rows[licencesOfFirst] = 1;
        Due.is("a step without licence, state like it", loft.isSound(), false);
    }

    private static void jumpsThatMightNotBeDoneAreSeen() throws ReflectiveOperationException {
        Silkloft loft = Lofts.packed("mr");
        loft.load();
        loft.board(0, 0, 1);
        loft.goOn(50);
        loft.jump(0, 0);
        int[] rows = (int[]) get(get(loft, "diary"), "rows");
        int lifeOfMain = 6 * 5 + 4;
        for (int life = 50; life >= 49; life--) {
            Object canopy = part(loft, "canopies", 0);
            fieldOf(canopy, "life").setInt(canopy, life);
            rows[lifeOfMain] = life;
            Due.is("a jump with a main of the life " + life, loft.isSound(), life == 50);
        }
    }

    private static void allCallsMayBeActs() {
        Silkloft loft = new Silkloft();
        for (int i = 1; i <= 512; i++) {
            Due.is("act " + i, loft.goOn(1), i);
        }
    }

    private static void manyCallsDoNoHarm() {
        Silkloft loft = new Silkloft();
        loft.addRigger(63, 9999);
        loft.addCanopy('m', 0, 0, 1);
        for (int i = 0; i < 509; i++) {
            loft.setPeriod(1 + i);
        }
        Due.is("call 512", loft.isSound(), true);
        for (int i = 0; i < 600; i++) {
            loft.setPeriod(1 + i);
            loft.isSound();
        }
        Due.is("behind the 512th call nothing is due, and nothing breaks", loft.held(), 0);
    }

    private static Object part(Silkloft loft, String row, int index)
            throws ReflectiveOperationException {
        return Array.get(get(get(loft, "loft"), row), index);
    }

    private static Object get(Object owner, String name) throws ReflectiveOperationException {
        return fieldOf(owner, name).get(owner);
    }

    private static Field fieldOf(Object owner, String name) throws ReflectiveOperationException {
        Field field = owner.getClass().getDeclaredField(name);
        field.setAccessible(true);
        return field;
    }
}
