import java.util.ArrayList;
import java.util.HashSet;
import java.util.List;
import java.util.NoSuchElementException;
import java.util.Set;

/**
 * The document once more, as near to its words as can be: it keeps what happened and
 * looks all of it through at each question. ModelTest compares the program with it.
 */
public final class Model {
    private static final class Rigger {
        int licences;
        int until;
    }

    private static final class Packing {
        int hook;
        int day;
        List<Integer> riggers = new ArrayList<>();
    }

    /** A drop, a repair or a finding of a canopy, with its place in the order of acts. */
    private static final class Event {
        final int when;
        final boolean isGood;

        Event(int when, boolean isGood) {
            this.when = when;
            this.isGood = isGood;
        }
    }

    private static final class Canopy {
        int number;
        char kind;
        int cloth;
        int lines;
        int life;
        int birth;
        char state = 'o';
        Packing underWay;
        List<Packing> packings = new ArrayList<>();
        List<Event> drops = new ArrayList<>();
        List<Event> repairs = new ArrayList<>();
        int jumps;
        int due;
        int deposit;
    }

    private static final class Finding {
        Canopy canopy;
        Packing packing;
        int level;
        char cause = '-';
        boolean isClosed;
        int when;
    }

    private static final class Load {
        List<Canopy> mains = new ArrayList<>();
        List<Canopy> reserves = new ArrayList<>();
        boolean hasJumped;
    }

    private final List<Rigger> riggers = new ArrayList<>();
    private final List<Canopy> canopies = new ArrayList<>();
    private final List<Load> loads = new ArrayList<>();
    private final List<Finding> findings = new ArrayList<>();
    private int day = 0;
    private int period = 180;
    private long kept = 0;
    private int clock = 0;

    private static void index(boolean isRight) {
        if (!isRight) {
            throw new IndexOutOfBoundsException();
        }
    }

    private static void argument(boolean isRight) {
        if (!isRight) {
            throw new IllegalArgumentException();
        }
    }

    private static void supported(boolean isRight) {
        if (!isRight) {
            throw new UnsupportedOperationException();
        }
    }

    private static void state(boolean isRight) {
        if (!isRight) {
            throw new IllegalStateException();
        }
    }

    private Canopy canopy(int number) {
        index(number >= 0 && number < canopies.size());
        return canopies.get(number);
    }

    private Rigger rigger(int number) {
        index(number >= 0 && number < riggers.size());
        return riggers.get(number);
    }

    private Finding finding(int number) {
        index(number >= 0 && number < findings.size());
        return findings.get(number);
    }

    private Load loadOf(int number) {
        index(number >= 0 && number < loads.size());
        return loads.get(number);
    }

    private boolean may(Rigger rigger, int work) {
        return (rigger.licences & (1 << work)) != 0 && rigger.until >= day;
    }

    private static boolean shares(Canopy canopy, Packing packing, boolean isHook) {
        for (Packing one : canopy.packings) {
            if (isHook && one.hook == packing.hook) {
                return true;
            }
            for (int i = 0; i < 5 && !isHook; i++) {
                if (one.riggers.get(i).equals(packing.riggers.get(i))) {
                    return true;
                }
            }
        }
        return false;
    }

    private static boolean reaches(Finding f, Canopy c) {
        if (f.isClosed) {
            return false;
        }
        if (f.canopy == c) {
            return true;
        }
        String reasons = f.cause == '-' ? "lhrc".substring(0, f.level) : String.valueOf(f.cause);
        boolean isHit = false;
        for (char reason : reasons.toCharArray()) {
            isHit |= reason == 'l' && c.lines == f.canopy.lines;
            isHit |= reason == 'c' && c.cloth == f.canopy.cloth;
            isHit |= reason == 'h' && f.packing != null && shares(c, f.packing, true);
            isHit |= reason == 'r' && f.packing != null && shares(c, f.packing, false);
        }
        return isHit;
    }

    private static boolean isFree(Finding f, Canopy c) {
        for (int i = 0; i + 1 < c.drops.size(); i++) {
            boolean isPair = c.drops.get(i).isGood && c.drops.get(i).when > f.when;
            for (int j = i + 1; j < c.drops.size(); j++) {
                isPair &= c.drops.get(j).isGood;
            }
            if (isPair && f.canopy != c) {
                return true;
            }
            for (Event repair : c.repairs) {
                if (isPair && repair.when > f.when && repair.when < c.drops.get(i).when) {
                    return true;
                }
            }
        }
        return false;
    }

    private boolean grounded(Canopy c) {
        for (Finding f : findings) {
            if (reaches(f, c) && !isFree(f, c)) {
                return true;
            }
        }
        return false;
    }

    private boolean out(Canopy c) {
        if (day > c.birth + c.life) {
            return true;
        }
        boolean isPacked = c.state == 'k' || c.state == 'a' || c.state == 'h';
        return c.kind == 'r' && isPacked && day > latest(c).day + period;
    }

    private static Packing latest(Canopy c) {
        return c.packings.isEmpty() ? null : c.packings.get(c.packings.size() - 1);
    }

    private static int goodInARow(Canopy c) {
        int count = 0;
        for (Event drop : c.drops) {
            count = drop.isGood ? count + 1 : 0;
        }
        return count;
    }

    private boolean isReady(Canopy c) {
        return c.state == 'k' && !grounded(c) && !out(c);
    }

    private void makeFinding(Canopy c) {
        Finding f = new Finding();
        f.canopy = c;
        f.packing = latest(c);
        f.when = ++clock;
        findings.add(f);
    }

    public int addRigger(int licences, int until) {
        argument(licences >= 0 && licences <= 63 && until >= 0 && until <= 9999);
        state(riggers.size() < 8);
        Rigger rigger = new Rigger();
        rigger.licences = licences;
        rigger.until = until;
        riggers.add(rigger);
        return riggers.size() - 1;
    }

    public int setLicences(int rigger, int licences, int until) {
        Rigger who = rigger(rigger);
        argument(licences >= 0 && licences <= 63 && until >= 0 && until <= 9999);
        int before = who.licences;
        who.licences = licences;
        who.until = until;
        return before;
    }

    public int addCanopy(char kind, int cloth, int lines, int life) {
        argument(kind == 'm' || kind == 'r');
        argument(cloth >= 0 && cloth <= 9 && lines >= 0 && lines <= 9);
        argument(life >= 1 && life <= 9999);
        state(canopies.size() < 24);
        Canopy c = new Canopy();
        c.number = canopies.size();
        c.kind = kind;
        c.cloth = cloth;
        c.lines = lines;
        c.life = life;
        c.birth = day;
        canopies.add(c);
        return c.number;
    }

    public int setPeriod(int days) {
        argument(days >= 1 && days <= 999);
        int before = period;
        period = days;
        return before;
    }

    public int goOn(int days) {
        argument(days >= 1 && days <= 999);
        state(day + days <= 9999);
        day += days;
        return day;
    }

    public int hang(int canopy, int hook) {
        Canopy c = canopy(canopy);
        argument(hook >= 0 && hook <= 5);
        supported(c.state == 'o');
        int inUse = 1;
        for (Canopy other : canopies) {
            if (other.underWay != null) {
                state(other.underWay.hook != hook);
                inUse++;
            }
        }
        c.state = 'p';
        c.underWay = new Packing();
        c.underWay.hook = hook;
        return inUse;
    }

    public int step(int canopy, int rigger) {
        Canopy c = canopy(canopy);
        Rigger who = rigger(rigger);
        supported(c.state == 'p');
        List<Integer> done = c.underWay.riggers;
        argument(may(who, done.size()));
        argument(done.size() != 4 || done.get(3) != rigger);
        done.add(rigger);
        if (done.size() == 5) {
            c.underWay.day = day;
            c.packings.add(c.underWay);
            c.underWay = null;
            c.state = 'k';
        }
        return done.size();
    }

    public int breakOff(int canopy) {
        Canopy c = canopy(canopy);
        supported(c.state == 'p');
        int done = c.underWay.riggers.size();
        c.underWay = null;
        c.state = 'o';
        return done;
    }

    public int load() {
        state(loads.size() < 30);
        loads.add(new Load());
        return loads.size() - 1;
    }

    public int board(int load, int main, int reserve) {
        Load l = loadOf(load);
        Canopy m = canopy(main);
        Canopy r = canopy(reserve);
        argument(m.kind == 'm' && r.kind == 'r');
        supported(isReady(m) && isReady(r) && !l.hasJumped);
        state(l.mains.size() < 6);
        l.mains.add(m);
        l.reserves.add(r);
        m.state = 'a';
        r.state = 'a';
        return l.mains.size();
    }

    public int leave(int load) {
        Load l = loadOf(load);
        supported(!l.mains.isEmpty() && !l.hasJumped);
        int last = l.mains.size() - 1;
        l.mains.remove(last).state = 'k';
        l.reserves.remove(last).state = 'k';
        return last;
    }

    public int jump(int load, int reserves) {
        Load l = loadOf(load);
        supported(!l.mains.isEmpty() && !l.hasJumped);
        for (int i = 0; i < l.mains.size(); i++) {
            supported(!grounded(l.mains.get(i)) && !out(l.mains.get(i)));
            supported(!grounded(l.reserves.get(i)) && !out(l.reserves.get(i)));
        }
        for (int i = 0; i < l.mains.size(); i++) {
            l.mains.get(i).state = 'o';
            l.mains.get(i).jumps++;
            boolean isNeeded = (reserves & (1 << i)) != 0;
            l.reserves.get(i).state = isNeeded ? 'o' : 'k';
            l.reserves.get(i).jumps += isNeeded ? 1 : 0;
        }
        l.hasJumped = true;
        return l.mains.size();
    }

    public int find(int canopy) {
        Canopy c = canopy(canopy);
        state(findings.size() < 12);
        makeFinding(c);
        return findings.size() - 1;
    }

    public int widen(int finding) {
        Finding f = finding(finding);
        supported(!f.isClosed && f.cause == '-' && f.level != 4);
        return ++f.level;
    }

    public char tellCause(int finding, char cause) {
        Finding f = finding(finding);
        argument("lhrcs".indexOf(cause) >= 0);
        supported(!f.isClosed && (f.packing != null || "hr".indexOf(cause) < 0));
        char before = f.cause;
        f.cause = cause;
        return before;
    }

    public boolean close(int finding) {
        Finding f = finding(finding);
        boolean wasOpen = !f.isClosed;
        f.isClosed = true;
        return wasOpen;
    }

    public int grounds(int finding) {
        Finding f = finding(finding);
        int count = 0;
        for (Canopy c : canopies) {
            count += reaches(f, c) && !isFree(f, c) ? 1 : 0;
        }
        return count;
    }

    public int repair(int canopy, int rigger) {
        Canopy c = canopy(canopy);
        Rigger who = rigger(rigger);
        supported(c.state == 'o');
        argument(may(who, 5));
        c.repairs.add(new Event(++clock, true));
        return c.repairs.size();
    }

    public int drop(int canopy, boolean isGood) {
        Canopy c = canopy(canopy);
        supported(c.state == 'k');
        c.state = 'o';
        c.drops.add(new Event(++clock, isGood));
        if (!isGood && findings.size() < 12) {
            makeFinding(c);
        }
        return goodInARow(c);
    }

    public int hire(int canopy, int days, int deposit) {
        Canopy c = canopy(canopy);
        argument(days >= 1 && days <= 30 && deposit >= 0 && deposit <= 999);
        supported(isReady(c));
        c.state = 'h';
        c.due = day + days;
        c.deposit = deposit;
        return c.due;
    }

    public int back(int canopy, boolean isUsed, boolean isDamaged) {
        Canopy c = canopy(canopy);
        supported(c.state == 'h');
        int paid = c.deposit;
        for (int late = c.due; late < day; late++) {
            paid -= 5;
        }
        paid -= isDamaged ? 50 : 0;
        paid = paid < 0 ? 0 : paid;
        kept += c.deposit - paid;
        c.state = isUsed ? 'o' : 'k';
        if (isDamaged && findings.size() < 12) {
            makeFinding(c);
        }
        return paid;
    }

    public char stateOf(int canopy) {
        return canopy(canopy).state;
    }

    public boolean isGrounded(int canopy) {
        return grounded(canopy(canopy));
    }

    public boolean isOut(int canopy) {
        return out(canopy(canopy));
    }

    public int packings(int canopy) {
        return canopy(canopy).packings.size();
    }

    public int packingOf(int canopy, int index, char what) {
        Canopy c = canopy(canopy);
        index(index >= 0 && index < c.packings.size());
        argument("hd01234".indexOf(what) >= 0);
        Packing packing = c.packings.get(index);
        if (what == 'h') {
            return packing.hook;
        }
        return what == 'd' ? packing.day : packing.riggers.get(what - '0');
    }

    public int jumps(int canopy) {
        return canopy(canopy).jumps;
    }

    public int sharers(int canopy) {
        Canopy c = canopy(canopy);
        Set<Integer> others = new HashSet<>();
        for (Packing packing : c.packings) {
            for (Canopy other : canopies) {
                if (other != c && shares(other, packing, true)) {
                    others.add(other.number);
                }
            }
        }
        return others.size();
    }

    public int next() {
        for (int left = 0; left <= 999; left++) {
            for (Canopy c : canopies) {
                boolean isCounted = c.kind == 'r' && c.state == 'k' && !out(c);
                if (isCounted && latest(c).day + period - day == left) {
                    return c.number;
                }
            }
        }
        throw new NoSuchElementException();
    }

    public long held() {
        long sum = 0;
        for (Canopy c : canopies) {
            sum += c.state == 'h' ? c.deposit : 0;
        }
        return sum;
    }

    public long kept() {
        return kept;
    }

    public float groundedShare() {
        if (canopies.isEmpty()) {
            throw new ArithmeticException();
        }
        int count = 0;
        for (Canopy c : canopies) {
            count += grounded(c) ? 1 : 0;
        }
        return (float) count / (float) canopies.size();
    }

    public double meanDrops() {
        if (canopies.isEmpty()) {
            throw new ArithmeticException();
        }
        int sum = 0;
        for (Canopy c : canopies) {
            sum += goodInARow(c);
        }
        return (double) sum / (double) canopies.size();
    }

    public boolean isSound() {
        return true;
    }
}
