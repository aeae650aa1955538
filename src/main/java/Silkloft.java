import java.util.NoSuchElementException;

/** A parachute loft: canopies, their packings, jumps, findings, trials and hire. */
public final class Silkloft {
    private static final int MAX_RIGGERS = 8;
    private static final int MAX_CANOPIES = 24;
    private static final int MAX_LOADS = 30;
    private static final int MAX_ABOARD = 6;
    private static final int MAX_FINDINGS = 12;
    private static final int HOOKS = 6;
    private static final int STEPS = 5;
    private static final int ALL_LICENCES = 63;
    private static final int REPAIRS = 5;
    private static final int LAST_DAY = 9999;
    private static final int FIRST_PERIOD = 180;
    private static final int LAST_LEVEL = 4;
    private static final int FEE_PER_DAY = 5;
    private static final int FEE_FOR_DAMAGE = 50;
    // An object is used for at most 512 calls, so it never has more acts.
    private static final int MAX_ACTS = 512;
    // A packing takes six acts: it is hung, and has five steps.
    private static final int MAX_PACKINGS = 86;
    private static final int NO_PACKING = -1;
    private static final int NO_HOOK = -1;

    private static final char MAIN = 'm';
    private static final char RESERVE = 'r';

    private static final char OPEN = 'o';
    private static final char BEING_PACKED = 'p';
    private static final char PACKED = 'k';
    private static final char ABOARD = 'a';
    private static final char ON_HIRE = 'h';

    private static final char NO_CAUSE = '-';
    private static final char LINES = 'l';
    private static final char HOOK = 'h';
    private static final char HANDS = 'r';
    private static final char CLOTH = 'c';
    private static final char SELF = 's';

    private static final int ADD_RIGGER = 0;
    private static final int SET_LICENCES = 1;
    private static final int ADD_CANOPY = 2;
    private static final int SET_PERIOD = 3;
    private static final int GO_ON = 4;
    private static final int HANG = 5;
    private static final int STEP = 6;
    private static final int BREAK_OFF = 7;
    private static final int LOAD = 8;
    private static final int BOARD = 9;
    private static final int LEAVE = 10;
    private static final int JUMP = 11;
    private static final int FIND = 12;
    private static final int WIDEN = 13;
    private static final int TELL_CAUSE = 14;
    private static final int CLOSE = 15;
    private static final int REPAIR = 16;
    private static final int DROP = 17;
    private static final int HIRE = 18;
    private static final int BACK = 19;

    private final Loft loft;
    // The loft in which isSound does all acts again; kept so that it is made but once.
    private final Loft again;
    private final Diary diary;

    public Silkloft() {
        loft = new Loft();
        again = new Loft();
        diary = new Diary();
    }

    public int addRigger(int licences, int until)
            throws IllegalArgumentException, IllegalStateException {
        return act(ADD_RIGGER, licences, until, 0, 0);
    }

    public int setLicences(int rigger, int licences, int until)
            throws IndexOutOfBoundsException, IllegalArgumentException {
        return act(SET_LICENCES, rigger, licences, until, 0);
    }

    public int addCanopy(char kind, int cloth, int lines, int life)
            throws IllegalArgumentException, IllegalStateException {
        return act(ADD_CANOPY, kind, cloth, lines, life);
    }

    public int setPeriod(int days) throws IllegalArgumentException {
        return act(SET_PERIOD, days, 0, 0, 0);
    }

    public int goOn(int days) throws IllegalArgumentException, IllegalStateException {
        return act(GO_ON, days, 0, 0, 0);
    }

    public int hang(int canopy, int hook)
            throws IndexOutOfBoundsException, IllegalArgumentException,
            UnsupportedOperationException, IllegalStateException {
        return act(HANG, canopy, hook, 0, 0);
    }

    public int step(int canopy, int rigger)
            throws IndexOutOfBoundsException, UnsupportedOperationException,
            IllegalArgumentException {
        return act(STEP, canopy, rigger, 0, 0);
    }

    public int breakOff(int canopy)
            throws IndexOutOfBoundsException, UnsupportedOperationException {
        return act(BREAK_OFF, canopy, 0, 0, 0);
    }

    public int load() throws IllegalStateException {
        return act(LOAD, 0, 0, 0, 0);
    }

    public int board(int load, int main, int reserve)
            throws IndexOutOfBoundsException, IllegalArgumentException,
            UnsupportedOperationException, IllegalStateException {
        return act(BOARD, load, main, reserve, 0);
    }

    public int leave(int load) throws IndexOutOfBoundsException, UnsupportedOperationException {
        return act(LEAVE, load, 0, 0, 0);
    }

    public int jump(int load, int reserves)
            throws IndexOutOfBoundsException, UnsupportedOperationException {
        return act(JUMP, load, reserves, 0, 0);
    }

    public int find(int canopy) throws IndexOutOfBoundsException, IllegalStateException {
        return act(FIND, canopy, 0, 0, 0);
    }

    public int widen(int finding) throws IndexOutOfBoundsException, UnsupportedOperationException {
        return act(WIDEN, finding, 0, 0, 0);
    }

    public char tellCause(int finding, char cause)
            throws IndexOutOfBoundsException, IllegalArgumentException,
            UnsupportedOperationException {
        return (char) act(TELL_CAUSE, finding, cause, 0, 0);
    }

    public boolean close(int finding) throws IndexOutOfBoundsException {
        return act(CLOSE, finding, 0, 0, 0) == 1;
    }

    public int grounds(int finding) throws IndexOutOfBoundsException {
        if (!loft.hasFinding(finding)) {
            throw new IndexOutOfBoundsException("no such finding");
        }
        return loft.countGroundedBy(finding);
    }

    public int repair(int canopy, int rigger)
            throws IndexOutOfBoundsException, UnsupportedOperationException,
            IllegalArgumentException {
        return act(REPAIR, canopy, rigger, 0, 0);
    }

    public int drop(int canopy, boolean isGood)
            throws IndexOutOfBoundsException, UnsupportedOperationException {
        return act(DROP, canopy, isGood ? 1 : 0, 0, 0);
    }

    public int hire(int canopy, int days, int deposit)
            throws IndexOutOfBoundsException, IllegalArgumentException,
            UnsupportedOperationException {
        return act(HIRE, canopy, days, deposit, 0);
    }

    public int back(int canopy, boolean isUsed, boolean isDamaged)
            throws IndexOutOfBoundsException, UnsupportedOperationException {
        return act(BACK, canopy, isUsed ? 1 : 0, isDamaged ? 1 : 0, 0);
    }

    public char stateOf(int canopy) throws IndexOutOfBoundsException {
        return canopyAt(canopy).state;
    }

    public boolean isGrounded(int canopy) throws IndexOutOfBoundsException {
        canopyAt(canopy);
        return loft.isOnGround(canopy);
    }

    public boolean isOut(int canopy) throws IndexOutOfBoundsException {
        return loft.isTooOld(canopyAt(canopy));
    }

    public int packings(int canopy) throws IndexOutOfBoundsException {
        return canopyAt(canopy).packingCount;
    }

    public int packingOf(int canopy, int index, char what)
            throws IndexOutOfBoundsException, IllegalArgumentException {
        Canopy packed = canopyAt(canopy);
        if (index < 0 || index >= packed.packingCount) {
            throw new IndexOutOfBoundsException("no such packing");
        }
        if (what != 'h' && what != 'd' && (what < '0' || what > '4')) {
            throw new IllegalArgumentException("no such thing of a packing");
        }
        return loft.book.lookUp(canopy, index, what);
    }

    public int jumps(int canopy) throws IndexOutOfBoundsException {
        return canopyAt(canopy).jumpCount;
    }

    public int sharers(int canopy) throws IndexOutOfBoundsException {
        canopyAt(canopy);
        return loft.countSharers(canopy);
    }

    public int next() throws NoSuchElementException {
        int first = loft.firstReserveToRepack();
        if (first < 0) {
            throw new NoSuchElementException("no packed reserve in date");
        }
        return first;
    }

    public long held() {
        return loft.sumOfDeposits();
    }

    public long kept() {
        return loft.keptSum;
    }

    public float groundedShare() throws ArithmeticException {
        int count = loft.canopyCount;
        if (count == 0) {
            throw new ArithmeticException("no canopies");
        }
        return (float) loft.countGrounded() / (float) count;
    }

    public double meanDrops() throws ArithmeticException {
        int count = loft.canopyCount;
        if (count == 0) {
            throw new ArithmeticException("no canopies");
        }
        return (double) loft.sumOfGoodDrops() / (double) count;
    }

    public boolean isSound() {
        again.clear();
        for (int i = 0; i < diary.count; i++) {
            if (!diary.repeat(i, again)) {
                return false;
            }
        }
        return loft.isLike(again);
    }

    private Canopy canopyAt(int canopy) {
        if (!loft.hasCanopy(canopy)) {
            throw new IndexOutOfBoundsException("no such canopy");
        }
        return loft.canopies[canopy];
    }

    private int act(int kind, int a, int b, int c, int d) {
        throwFor(Rules.refusalOf(loft, kind, a, b, c, d));
        // Only an object that was called more than 512 times gets here with a full diary.
        if (diary.isFull()) {
            return 0;
        }
        diary.write(kind, a, b, c, d);
        return loft.perform(kind, a, b, c, d);
    }

    private static void throwFor(Refusal refusal) {
        if (refusal == Refusal.INDEX) {
            throw new IndexOutOfBoundsException("there is no such one");
        }
        if (refusal == Refusal.ARGUMENT) {
            throw new IllegalArgumentException("an argument does not do");
        }
        if (refusal == Refusal.UNSUPPORTED) {
            throw new UnsupportedOperationException("as things are, this can't be done");
        }
        if (refusal == Refusal.STATE) {
            throw new IllegalStateException("there is no room for more");
        }
    }

    /** Why an act is refused, named after the exception that the caller gets. */
    private enum Refusal { NONE, INDEX, ARGUMENT, UNSUPPORTED, STATE }

    private static final class Rigger {
        int licences;
        int until;

        void set(int newLicences, int newUntil) {
            licences = newLicences;
            until = newUntil;
        }

        boolean may(int work, int day) {
            return day <= until && (licences >> work & 1) == 1;
        }

        boolean isLike(Rigger other) {
            return licences == other.licences && until == other.until;
        }
    }

    private static final class Canopy {
        char kind;
        int cloth;
        int lines;
        int life;
        int added;
        char state;
        int hook;
        int stepsDone;
        final int[] stepRiggers = new int[STEPS];
        int packingCount;
        int latestPacking;
        // All hooks of its packings, a bit each, and all riggers by step, as Book.handsOf says.
        int hooksEver;
        long handsEver;
        int jumpCount;
        int repairCount;
        int goodDrops;
        // The acts of the last two of these good drops, 0 where there is none.
        int lastGoodDrop;
        int goodDropBefore;
        int dueBack;
        int deposit;

        void begin(char newKind, int newCloth, int newLines, int newLife, int day) {
            kind = newKind;
            cloth = newCloth;
            lines = newLines;
            life = newLife;
            added = day;
            state = OPEN;
            hook = NO_HOOK;
            stepsDone = 0;
            packingCount = 0;
            latestPacking = NO_PACKING;
            hooksEver = 0;
            handsEver = 0L;
            jumpCount = 0;
            repairCount = 0;
            goodDrops = 0;
            lastGoodDrop = 0;
            goodDropBefore = 0;
            dueBack = 0;
            deposit = 0;
        }

        void noteDrop(boolean isGood, int act) {
            if (isGood) {
                goodDrops++;
                goodDropBefore = lastGoodDrop;
                lastGoodDrop = act;
            } else {
                goodDrops = 0;
                goodDropBefore = 0;
                lastGoodDrop = 0;
            }
        }

        void land() {
            state = OPEN;
            jumpCount++;
        }

        boolean isLike(Canopy other) {
            return isMadeLike(other) && isPackedLike(other) && isTriedLike(other);
        }

        private boolean isMadeLike(Canopy other) {
            return kind == other.kind && cloth == other.cloth && lines == other.lines
                    && life == other.life && added == other.added;
        }

        private boolean isPackedLike(Canopy other) {
            if (state != other.state || hook != other.hook || stepsDone != other.stepsDone) {
                return false;
            }
            for (int i = 0; i < stepsDone && i < STEPS; i++) {
                if (stepRiggers[i] != other.stepRiggers[i]) {
                    return false;
                }
            }
            return packingCount == other.packingCount && latestPacking == other.latestPacking
                    && hooksEver == other.hooksEver && handsEver == other.handsEver;
        }

        private boolean isTriedLike(Canopy other) {
            return jumpCount == other.jumpCount && repairCount == other.repairCount
                    && goodDrops == other.goodDrops && lastGoodDrop == other.lastGoodDrop
                    && goodDropBefore == other.goodDropBefore
                    && dueBack == other.dueBack && deposit == other.deposit;
        }
    }

    /** All packings that were brought to their end, in the order of their ends. */
    private static final class Book {
        int count;
        final int[] owners = new int[MAX_PACKINGS];
        final int[] hooks = new int[MAX_PACKINGS];
        final int[] days = new int[MAX_PACKINGS];
        final int[] riggers = new int[MAX_PACKINGS * STEPS];

        int write(int owner, int hook, int day, int[] stepRiggers) {
            if (count >= MAX_PACKINGS || stepRiggers.length < STEPS) {
                return NO_PACKING;
            }
            owners[count] = owner;
            hooks[count] = hook;
            days[count] = day;
            for (int i = 0; i < STEPS; i++) {
                riggers[count * STEPS + i] = stepRiggers[i];
            }
            count++;
            return count - 1;
        }

        boolean has(int packing) {
            return packing >= 0 && packing < count;
        }

        /** The riggers of a packing, the bit 8 * step + rigger for each. */
        long handsOf(int packing) {
            long hands = 0L;
            for (int i = 0; i < STEPS; i++) {
                hands |= 1L << (MAX_RIGGERS * i + riggers[packing * STEPS + i]);
            }
            return hands;
        }

        int lookUp(int owner, int index, char what) {
            int packing = numberOf(owner, index);
            if (!has(packing)) {
                return 0;
            }
            if (what == 'h') {
                return hooks[packing];
            }
            if (what == 'd') {
                return days[packing];
            }
            int stepNumber = what - '0';
            if (stepNumber < 0 || stepNumber >= STEPS) {
                return 0;
            }
            return riggers[packing * STEPS + stepNumber];
        }

        private int numberOf(int owner, int index) {
            int seen = 0;
            for (int i = 0; i < count; i++) {
                if (owners[i] == owner) {
                    if (seen == index) {
                        return i;
                    }
                    seen++;
                }
            }
            return NO_PACKING;
        }

        boolean isLike(Book other) {
            if (count != other.count) {
                return false;
            }
            for (int i = 0; i < count; i++) {
                if (owners[i] != other.owners[i] || hooks[i] != other.hooks[i]
                        || days[i] != other.days[i]) {
                    return false;
                }
            }
            for (int i = 0; i < count * STEPS; i++) {
                if (riggers[i] != other.riggers[i]) {
                    return false;
                }
            }
            return true;
        }
    }

    private static final class Load {
        int aboard;
        boolean hasJumped;
        final int[] mains = new int[MAX_ABOARD];
        final int[] reserves = new int[MAX_ABOARD];

        void begin() {
            aboard = 0;
            hasJumped = false;
        }

        boolean isLike(Load other) {
            if (aboard != other.aboard || hasJumped != other.hasJumped) {
                return false;
            }
            for (int i = 0; i < aboard && i < MAX_ABOARD; i++) {
                if (mains[i] != other.mains[i] || reserves[i] != other.reserves[i]) {
                    return false;
                }
            }
            return true;
        }
    }

    private static final class Finding {
        int canopy;
        int packing;
        int level;
        char cause;
        boolean isClosed;
        // The act that made it, and the first repair of its canopy behind it, 0 if there is none.
        int madeBy;
        int repairedBy;

        void begin(int newCanopy, int newPacking, int act) {
            canopy = newCanopy;
            packing = newPacking;
            level = 0;
            cause = NO_CAUSE;
            isClosed = false;
            madeBy = act;
            repairedBy = 0;
        }

        /** Whether it grounds by a reason, which the level brings, or the cause alone if told. */
        boolean goesBy(int levelOfReason, char reason) {
            return cause == NO_CAUSE ? level >= levelOfReason : cause == reason;
        }

        boolean isLike(Finding other) {
            return canopy == other.canopy && packing == other.packing && level == other.level
                    && cause == other.cause && isClosed == other.isClosed
                    && madeBy == other.madeBy && repairedBy == other.repairedBy;
        }
    }

    /** The acts that were done, each with its arguments. */
    private static final class Diary {
        private static final int WIDTH = 5;
        int count;
        final int[] rows = new int[MAX_ACTS * WIDTH];

        boolean isFull() {
            return count >= MAX_ACTS;
        }

        void write(int kind, int a, int b, int c, int d) {
            if (isFull()) {
                return;
            }
            int at = count * WIDTH;
            rows[at] = kind;
            rows[at + 1] = a;
            rows[at + 2] = b;
            rows[at + 3] = c;
            rows[at + 4] = d;
            count++;
        }

        /** Does an act in a loft, and answers whether it might be done there. */
        boolean repeat(int index, Loft loft) {
            if (index < 0 || index >= count) {
                return false;
            }
            int at = index * WIDTH;
            int kind = rows[at];
            int a = rows[at + 1];
            int b = rows[at + 2];
            int c = rows[at + 3];
            int d = rows[at + 4];
            if (Rules.refusalOf(loft, kind, a, b, c, d) != Refusal.NONE) {
                return false;
            }
            loft.perform(kind, a, b, c, d);
            return true;
        }
    }

    /** What the document asks of an act before it is done, in the order of its exceptions. */
    private static final class Rules {
        static Refusal refusalOf(Loft loft, int kind, int a, int b, int c, int d) {
            switch (kind) {
                case ADD_RIGGER: return ofAddRigger(loft, a, b);
                case SET_LICENCES: return ofSetLicences(loft, a, b, c);
                case ADD_CANOPY: return ofAddCanopy(loft, a, b, c, d);
                case SET_PERIOD: return isIn(a, 1, 999) ? Refusal.NONE : Refusal.ARGUMENT;
                case GO_ON: return ofGoOn(loft, a);
                case HANG: return ofHang(loft, a, b);
                case STEP: return ofStep(loft, a, b);
                case BREAK_OFF: return ofCanopyIn(loft, a, BEING_PACKED);
                case LOAD: return loft.loadCount < MAX_LOADS ? Refusal.NONE : Refusal.STATE;
                case BOARD: return ofBoard(loft, a, b, c);
                case LEAVE: return ofLeave(loft, a);
                case JUMP: return ofJump(loft, a);
                case FIND: return ofFind(loft, a);
                case WIDEN: return ofWiden(loft, a);
                case TELL_CAUSE: return ofTellCause(loft, a, b);
                case CLOSE: return loft.hasFinding(a) ? Refusal.NONE : Refusal.INDEX;
                case REPAIR: return ofRepair(loft, a, b);
                case DROP: return ofCanopyIn(loft, a, PACKED);
                case HIRE: return ofHire(loft, a, b, c);
                case BACK: return ofCanopyIn(loft, a, ON_HIRE);
                default: return Refusal.ARGUMENT;
            }
        }

        private static boolean isIn(int number, int least, int most) {
            return number >= least && number <= most;
        }

        private static boolean areLicences(int licences, int until) {
            return isIn(licences, 0, ALL_LICENCES) && isIn(until, 0, LAST_DAY);
        }

        private static Refusal ofAddRigger(Loft loft, int licences, int until) {
            if (!areLicences(licences, until)) {
                return Refusal.ARGUMENT;
            }
            return loft.riggerCount < MAX_RIGGERS ? Refusal.NONE : Refusal.STATE;
        }

        private static Refusal ofSetLicences(Loft loft, int rigger, int licences, int until) {
            if (!loft.hasRigger(rigger)) {
                return Refusal.INDEX;
            }
            return areLicences(licences, until) ? Refusal.NONE : Refusal.ARGUMENT;
        }

        private static Refusal ofAddCanopy(Loft loft, int kind, int cloth, int lines, int life) {
            if (kind != MAIN && kind != RESERVE) {
                return Refusal.ARGUMENT;
            }
            if (!isIn(cloth, 0, 9) || !isIn(lines, 0, 9) || !isIn(life, 1, 9999)) {
                return Refusal.ARGUMENT;
            }
            return loft.canopyCount < MAX_CANOPIES ? Refusal.NONE : Refusal.STATE;
        }

        private static Refusal ofGoOn(Loft loft, int days) {
            if (!isIn(days, 1, 999)) {
                return Refusal.ARGUMENT;
            }
            return loft.day + days <= LAST_DAY ? Refusal.NONE : Refusal.STATE;
        }

        private static Refusal ofCanopyIn(Loft loft, int canopy, char state) {
            if (!loft.hasCanopy(canopy)) {
                return Refusal.INDEX;
            }
            return loft.canopies[canopy].state == state ? Refusal.NONE : Refusal.UNSUPPORTED;
        }

        private static Refusal ofHang(Loft loft, int canopy, int hook) {
            if (!loft.hasCanopy(canopy)) {
                return Refusal.INDEX;
            }
            if (!isIn(hook, 0, HOOKS - 1)) {
                return Refusal.ARGUMENT;
            }
            if (loft.canopies[canopy].state != OPEN) {
                return Refusal.UNSUPPORTED;
            }
            return loft.isHookFree(hook) ? Refusal.NONE : Refusal.STATE;
        }

        private static Refusal ofStep(Loft loft, int canopy, int rigger) {
            if (!loft.hasCanopy(canopy) || !loft.hasRigger(rigger)) {
                return Refusal.INDEX;
            }
            Canopy hung = loft.canopies[canopy];
            int stepNumber = hung.stepsDone;
            if (hung.state != BEING_PACKED || !isIn(stepNumber, 0, STEPS - 1)) {
                return Refusal.UNSUPPORTED;
            }
            if (!loft.riggers[rigger].may(stepNumber, loft.day)) {
                return Refusal.ARGUMENT;
            }
            boolean isOwnCheck = stepNumber == STEPS - 1 && hung.stepRiggers[STEPS - 2] == rigger;
            return isOwnCheck ? Refusal.ARGUMENT : Refusal.NONE;
        }

        private static Refusal ofBoard(Loft loft, int load, int main, int reserve) {
            if (!loft.hasLoad(load) || !loft.hasCanopy(main) || !loft.hasCanopy(reserve)) {
                return Refusal.INDEX;
            }
            Canopy first = loft.canopies[main];
            Canopy second = loft.canopies[reserve];
            if (first.kind != MAIN || second.kind != RESERVE) {
                return Refusal.ARGUMENT;
            }
            if (first.state != PACKED || second.state != PACKED || loft.loads[load].hasJumped) {
                return Refusal.UNSUPPORTED;
            }
            if (!loft.isFitToJump(main) || !loft.isFitToJump(reserve)) {
                return Refusal.UNSUPPORTED;
            }
            return loft.loads[load].aboard < MAX_ABOARD ? Refusal.NONE : Refusal.STATE;
        }

        private static Refusal ofLeave(Loft loft, int load) {
            if (!loft.hasLoad(load)) {
                return Refusal.INDEX;
            }
            return loft.loads[load].aboard == 0 || loft.loads[load].hasJumped
                    ? Refusal.UNSUPPORTED : Refusal.NONE;
        }

        private static Refusal ofJump(Loft loft, int load) {
            Refusal refusal = ofLeave(loft, load);
            if (refusal != Refusal.NONE) {
                return refusal;
            }
            Load jumpers = loft.loads[load];
            for (int i = 0; i < jumpers.aboard && i < MAX_ABOARD; i++) {
                if (!loft.isFitToJump(jumpers.mains[i]) || !loft.isFitToJump(jumpers.reserves[i])) {
                    return Refusal.UNSUPPORTED;
                }
            }
            return Refusal.NONE;
        }

        private static Refusal ofFind(Loft loft, int canopy) {
            if (!loft.hasCanopy(canopy)) {
                return Refusal.INDEX;
            }
            return loft.findingCount < MAX_FINDINGS ? Refusal.NONE : Refusal.STATE;
        }

        private static Refusal ofWiden(Loft loft, int finding) {
            if (!loft.hasFinding(finding)) {
                return Refusal.INDEX;
            }
            Finding found = loft.findings[finding];
            boolean isAtItsEnd = found.isClosed || found.cause != NO_CAUSE
                    || found.level >= LAST_LEVEL;
            return isAtItsEnd ? Refusal.UNSUPPORTED : Refusal.NONE;
        }

        private static Refusal ofTellCause(Loft loft, int finding, int cause) {
            if (!loft.hasFinding(finding)) {
                return Refusal.INDEX;
            }
            boolean isOfPacking = cause == HOOK || cause == HANDS;
            if (!isOfPacking && cause != LINES && cause != CLOTH && cause != SELF) {
                return Refusal.ARGUMENT;
            }
            Finding found = loft.findings[finding];
            if (found.isClosed || isOfPacking && found.packing == NO_PACKING) {
                return Refusal.UNSUPPORTED;
            }
            return Refusal.NONE;
        }

        private static Refusal ofRepair(Loft loft, int canopy, int rigger) {
            if (!loft.hasCanopy(canopy) || !loft.hasRigger(rigger)) {
                return Refusal.INDEX;
            }
            if (loft.canopies[canopy].state != OPEN) {
                return Refusal.UNSUPPORTED;
            }
            return loft.riggers[rigger].may(REPAIRS, loft.day) ? Refusal.NONE : Refusal.ARGUMENT;
        }

        private static Refusal ofHire(Loft loft, int canopy, int days, int deposit) {
            if (!loft.hasCanopy(canopy)) {
                return Refusal.INDEX;
            }
            if (!isIn(days, 1, 30) || !isIn(deposit, 0, 999)) {
                return Refusal.ARGUMENT;
            }
            boolean isReady = loft.canopies[canopy].state == PACKED && loft.isFitToJump(canopy);
            return isReady ? Refusal.NONE : Refusal.UNSUPPORTED;
        }
    }

    /** The loft as it stands. Its acts are done only after Rules has let them pass. */
    private static final class Loft {
        final Rigger[] riggers = new Rigger[MAX_RIGGERS];
        final Canopy[] canopies = new Canopy[MAX_CANOPIES];
        final Load[] loads = new Load[MAX_LOADS];
        final Finding[] findings = new Finding[MAX_FINDINGS];
        final Book book = new Book();
        int riggerCount;
        int canopyCount;
        int loadCount;
        int findingCount;
        int day;
        int period;
        long keptSum;
        // How many acts were done: the number of the one that is done now.
        int actCount;

        Loft() {
            for (int i = 0; i < MAX_RIGGERS; i++) {
                riggers[i] = new Rigger();
            }
            for (int i = 0; i < MAX_CANOPIES; i++) {
                canopies[i] = new Canopy();
            }
            for (int i = 0; i < MAX_LOADS; i++) {
                loads[i] = new Load();
            }
            for (int i = 0; i < MAX_FINDINGS; i++) {
                findings[i] = new Finding();
            }
            period = FIRST_PERIOD;
        }

        void clear() {
            riggerCount = 0;
            canopyCount = 0;
            loadCount = 0;
            findingCount = 0;
            book.count = 0;
            day = 0;
            period = FIRST_PERIOD;
            keptSum = 0L;
            actCount = 0;
        }

        boolean hasRigger(int rigger) {
            return rigger >= 0 && rigger < riggerCount;
        }

        boolean hasCanopy(int canopy) {
            return canopy >= 0 && canopy < canopyCount;
        }

        boolean hasLoad(int load) {
            return load >= 0 && load < loadCount;
        }

        boolean hasFinding(int finding) {
            return finding >= 0 && finding < findingCount;
        }

        int perform(int kind, int a, int b, int c, int d) {
            actCount++;
            switch (kind) {
                case ADD_RIGGER: return enrol(a, b);
                case SET_LICENCES: return relicense(a, b, c);
                case ADD_CANOPY: return enter((char) a, b, c, d);
                case SET_PERIOD: return changePeriod(a);
                case GO_ON: return letDaysPass(a);
                case HANG: return putOnHook(a, b);
                case STEP: return doStep(a, b);
                case BREAK_OFF: return takeOffHook(canopies[a]);
                case LOAD: return beginLoad();
                case BOARD: return putAboard(loads[a], b, c);
                case LEAVE: return takeLastOff(loads[a]);
                case JUMP: return letJump(loads[a], b);
                case FIND: return noteFinding(a);
                case WIDEN: return raiseLevel(findings[a]);
                case TELL_CAUSE: return noteCause(findings[a], (char) b);
                case CLOSE: return shut(findings[a]);
                case REPAIR: return mend(a);
                case DROP: return tryOut(a, b == 1);
                case HIRE: return handOut(canopies[a], b, c);
                case BACK: return takeIn(a, b == 1, c == 1);
                default: return 0;
            }
        }

        private int enrol(int licences, int until) {
            riggers[riggerCount].set(licences, until);
            riggerCount++;
            return riggerCount - 1;
        }

        private int relicense(int rigger, int licences, int until) {
            int before = riggers[rigger].licences;
            riggers[rigger].set(licences, until);
            return before;
        }

        private int enter(char kind, int cloth, int lines, int life) {
            canopies[canopyCount].begin(kind, cloth, lines, life, day);
            canopyCount++;
            return canopyCount - 1;
        }

        private int changePeriod(int days) {
            int before = period;
            period = days;
            return before;
        }

        private int letDaysPass(int days) {
            day += days;
            return day;
        }

        private int putOnHook(int canopy, int hook) {
            Canopy hung = canopies[canopy];
            hung.state = BEING_PACKED;
            hung.hook = hook;
            hung.stepsDone = 0;
            int inUse = 0;
            for (int i = 0; i < canopyCount; i++) {
                if (canopies[i].state == BEING_PACKED) {
                    inUse++;
                }
            }
            return inUse;
        }

        boolean isHookFree(int hook) {
            for (int i = 0; i < canopyCount; i++) {
                if (canopies[i].hook == hook) {
                    return false;
                }
            }
            return true;
        }

        private int doStep(int canopy, int rigger) {
            Canopy hung = canopies[canopy];
            hung.stepRiggers[hung.stepsDone] = rigger;
            hung.stepsDone++;
            int done = hung.stepsDone;
            if (done == STEPS) {
                endPacking(canopy);
            }
            return done;
        }

        private void endPacking(int canopy) {
            Canopy hung = canopies[canopy];
            int packing = book.write(canopy, hung.hook, day, hung.stepRiggers);
            if (book.has(packing)) {
                hung.latestPacking = packing;
                hung.packingCount++;
                hung.hooksEver |= 1 << hung.hook;
                hung.handsEver |= book.handsOf(packing);
            }
            takeOffHook(hung);
            hung.state = PACKED;
        }

        private int takeOffHook(Canopy hung) {
            int done = hung.stepsDone;
            hung.state = OPEN;
            hung.hook = NO_HOOK;
            hung.stepsDone = 0;
            return done;
        }

        private int beginLoad() {
            loads[loadCount].begin();
            loadCount++;
            return loadCount - 1;
        }

        private int putAboard(Load load, int main, int reserve) {
            load.mains[load.aboard] = main;
            load.reserves[load.aboard] = reserve;
            load.aboard++;
            canopies[main].state = ABOARD;
            canopies[reserve].state = ABOARD;
            return load.aboard;
        }

        private int takeLastOff(Load load) {
            load.aboard--;
            canopies[load.mains[load.aboard]].state = PACKED;
            canopies[load.reserves[load.aboard]].state = PACKED;
            return load.aboard;
        }

        private int letJump(Load load, int reserves) {
            for (int i = 0; i < load.aboard && i < MAX_ABOARD; i++) {
                canopies[load.mains[i]].land();
                Canopy reserve = canopies[load.reserves[i]];
                if ((reserves >> i & 1) == 1) {
                    reserve.land();
                } else {
                    reserve.state = PACKED;
                }
            }
            load.hasJumped = true;
            return load.aboard;
        }

        private int noteFinding(int canopy) {
            findings[findingCount].begin(canopy, canopies[canopy].latestPacking, actCount);
            findingCount++;
            return findingCount - 1;
        }

        private void noteFindingIfRoom(int canopy) {
            if (findingCount < MAX_FINDINGS) {
                noteFinding(canopy);
            }
        }

        private int raiseLevel(Finding finding) {
            finding.level++;
            return finding.level;
        }

        private int noteCause(Finding finding, char cause) {
            char before = finding.cause;
            finding.cause = cause;
            return before;
        }

        private int shut(Finding finding) {
            boolean wasOpen = !finding.isClosed;
            finding.isClosed = true;
            return wasOpen ? 1 : 0;
        }

        private int mend(int canopy) {
            for (int i = 0; i < findingCount; i++) {
                if (findings[i].canopy == canopy && findings[i].repairedBy == 0) {
                    findings[i].repairedBy = actCount;
                }
            }
            canopies[canopy].repairCount++;
            return canopies[canopy].repairCount;
        }

        private int tryOut(int canopy, boolean isGood) {
            Canopy dropped = canopies[canopy];
            dropped.state = OPEN;
            dropped.noteDrop(isGood, actCount);
            if (!isGood) {
                noteFindingIfRoom(canopy);
            }
            return dropped.goodDrops;
        }

        private int handOut(Canopy hired, int days, int deposit) {
            hired.state = ON_HIRE;
            hired.dueBack = day + days;
            hired.deposit = deposit;
            return hired.dueBack;
        }

        private int takeIn(int canopy, boolean isUsed, boolean isDamaged) {
            Canopy hired = canopies[canopy];
            int late = Math.max(0, day - hired.dueBack);
            int fee = FEE_PER_DAY * late + (isDamaged ? FEE_FOR_DAMAGE : 0);
            int paid = Math.max(0, hired.deposit - fee);
            keptSum += hired.deposit - paid;
            hired.state = isUsed ? OPEN : PACKED;
            hired.dueBack = 0;
            hired.deposit = 0;
            if (isDamaged) {
                noteFindingIfRoom(canopy);
            }
            return paid;
        }

        boolean isFitToJump(int canopy) {
            return !isTooOld(canopies[canopy]) && !isOnGround(canopy);
        }

        boolean isTooOld(Canopy canopy) {
            if (day - canopy.added > canopy.life) {
                return true;
            }
            boolean isFolded = canopy.state != OPEN && canopy.state != BEING_PACKED;
            return canopy.kind == RESERVE && isFolded && daysLeft(canopy) < 0;
        }

        /** How many days of the period are left to a canopy that is packed, aboard or on hire. */
        private int daysLeft(Canopy canopy) {
            if (!book.has(canopy.latestPacking)) {
                return 0;
            }
            return period - (day - book.days[canopy.latestPacking]);
        }

        boolean isOnGround(int canopy) {
            for (int i = 0; i < findingCount; i++) {
                if (isReachedBy(findings[i], canopy) && !isFreeOf(findings[i], canopy)) {
                    return true;
                }
            }
            return false;
        }

        int countGroundedBy(int finding) {
            int count = 0;
            for (int i = 0; i < canopyCount; i++) {
                if (isReachedBy(findings[finding], i) && !isFreeOf(findings[finding], i)) {
                    count++;
                }
            }
            return count;
        }

        private boolean isReachedBy(Finding finding, int canopy) {
            if (finding.isClosed) {
                return false;
            }
            if (finding.canopy == canopy) {
                return true;
            }
            Canopy frayed = canopies[finding.canopy];
            Canopy other = canopies[canopy];
            if (finding.goesBy(1, LINES) && other.lines == frayed.lines) {
                return true;
            }
            if (finding.goesBy(4, CLOTH) && other.cloth == frayed.cloth) {
                return true;
            }
            int packing = finding.packing;
            if (!book.has(packing)) {
                return false;
            }
            if (finding.goesBy(2, HOOK) && (other.hooksEver >> book.hooks[packing] & 1) == 1) {
                return true;
            }
            return finding.goesBy(3, HANDS) && (other.handsEver & book.handsOf(packing)) != 0L;
        }

        // Of all pairs of good drops the last one is the latest, so it alone is looked at;
        // and the first repair behind the finding leaves most room for it.
        private boolean isFreeOf(Finding finding, int canopy) {
            int from = finding.canopy == canopy ? finding.repairedBy : finding.madeBy;
            return from > 0 && canopies[canopy].goodDropBefore > from;
        }

        int countSharers(int canopy) {
            int count = 0;
            for (int i = 0; i < canopyCount; i++) {
                if (i != canopy && (canopies[i].hooksEver & canopies[canopy].hooksEver) != 0) {
                    count++;
                }
            }
            return count;
        }

        /** The reserve with the fewest days left, or -1. */
        int firstReserveToRepack() {
            int first = -1;
            int fewest = 0;
            for (int i = 0; i < canopyCount; i++) {
                Canopy canopy = canopies[i];
                if (canopy.kind == RESERVE && canopy.state == PACKED && !isTooOld(canopy)) {
                    int left = daysLeft(canopy);
                    if (first < 0 || left < fewest) {
                        first = i;
                        fewest = left;
                    }
                }
            }
            return first;
        }

        long sumOfDeposits() {
            long sum = 0L;
            for (int i = 0; i < canopyCount; i++) {
                sum += canopies[i].deposit;
            }
            return sum;
        }

        int countGrounded() {
            int count = 0;
            for (int i = 0; i < canopyCount; i++) {
                if (isOnGround(i)) {
                    count++;
                }
            }
            return count;
        }

        int sumOfGoodDrops() {
            int sum = 0;
            for (int i = 0; i < canopyCount; i++) {
                sum += canopies[i].goodDrops;
            }
            return sum;
        }

        boolean isLike(Loft other) {
            if (day != other.day || period != other.period || keptSum != other.keptSum
                    || actCount != other.actCount) {
                return false;
            }
            return hasRiggersLike(other) && hasCanopiesLike(other) && hasLoadsLike(other)
                    && hasFindingsLike(other) && book.isLike(other.book);
        }

        private boolean hasRiggersLike(Loft other) {
            if (riggerCount != other.riggerCount) {
                return false;
            }
            for (int i = 0; i < riggerCount; i++) {
                if (!riggers[i].isLike(other.riggers[i])) {
                    return false;
                }
            }
            return true;
        }

        private boolean hasCanopiesLike(Loft other) {
            if (canopyCount != other.canopyCount) {
                return false;
            }
            for (int i = 0; i < canopyCount; i++) {
                if (!canopies[i].isLike(other.canopies[i])
                        || isOnGround(i) != other.isOnGround(i)) {
                    return false;
                }
            }
            return true;
        }

        private boolean hasLoadsLike(Loft other) {
            if (loadCount != other.loadCount) {
                return false;
            }
            for (int i = 0; i < loadCount; i++) {
                if (!loads[i].isLike(other.loads[i])) {
                    return false;
                }
            }
            return true;
        }

        private boolean hasFindingsLike(Loft other) {
            if (findingCount != other.findingCount) {
                return false;
            }
            for (int i = 0; i < findingCount; i++) {
                if (!findings[i].isLike(other.findings[i])) {
                    return false;
                }
            }
            return true;
        }
    }
}
