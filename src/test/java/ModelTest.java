import java.lang.reflect.InvocationTargetException;
import java.lang.reflect.Method;
import java.util.Arrays;
import java.util.Comparator;
import java.util.Map;
import java.util.TreeMap;

/** Long runs of calls, drawn by a formula, on the program and on the model at once. */
public final class ModelTest {
    private static final int RUNS = 600;
    private static final int CALLS = 512;
    private static final int WRONG_RUNS_TOLD = 5;
    // In place of a canopy: there is none in the state that was asked for, so another act comes.
    private static final int NONE = -99;

    private final Silkloft loft = new Silkloft();
    private final Model model = new Model();
    private final int run;
    private final Map<String, Integer> outcomes;
    private long seed;
    private int calls = 0;
    private boolean isWrong = false;
    private int loads = 0;
    private final int canopies;
    private final int lots;
    private final int badness;
    private final int riggers;
    private final StringBuilder kinds = new StringBuilder();

    private ModelTest(int run, Map<String, Integer> outcomes) {
        this.run = run;
        this.outcomes = outcomes;
        seed = 77777L + run * 1000003L;
        canopies = run % 3 == 0 ? 16 + draw(9) : 2 + draw(7);
        lots = 1 + draw(9);
        badness = 3 + draw(90);
        riggers = 2 + draw(run % 5 == 0 ? 7 : 4);
    }

    public static void main(String[] args) throws ReflectiveOperationException {
        Map<String, Integer> outcomes = new TreeMap<>();
        int wrongRuns = 0;
        for (int i = 0; i < RUNS && wrongRuns < WRONG_RUNS_TOLD; i++) {
            ModelTest test = new ModelTest(i, outcomes);
            test.go();
            wrongRuns += test.isWrong ? 1 : 0;
        }
        Due.is("wrong runs", wrongRuns, 0);
        if (wrongRuns == 0) {
            everyOutcomeCame(outcomes);
        }
        if (args.length > 0) {
            outcomes.forEach((what, count) -> System.out.println(what + " " + count));
        }
        Due.end();
    }

    /** Each exception that a method of the face names, and an answer, came at least once. */
    private static void everyOutcomeCame(Map<String, Integer> outcomes) {
        for (Method method : Silkloft.class.getDeclaredMethods()) {
            if (!java.lang.reflect.Modifier.isPublic(method.getModifiers())) {
                continue;
            }
            Due.is(method.getName() + " answered",
                    outcomes.containsKey(method.getName() + " answers"), true);
            for (Class<?> thrown : method.getExceptionTypes()) {
                String what = method.getName() + " " + thrown.getSimpleName();
                Due.is(what, outcomes.containsKey(what), true);
            }
        }
    }

    private int draw(int bound) {
        seed = seed * 6364136223846793005L + 1442695040888963407L;
        return (int) ((seed >>> 33) % bound);
    }

    private void go() throws ReflectiveOperationException {
        askAll();
        for (int i = 0; i < riggers; i++) {
            call("addRigger", draw(9) == 0 ? draw(64) : 63, draw(6) == 0 ? draw(400) : 9999);
        }
        for (int i = 0; i < 3; i++) {
            call("load");
        }
        int first = run % 7 == 0 ? 26 : canopies;
        for (int i = 0; i < first; i++) {
            addCanopy();
        }
        for (int i = 0; i < canopies && run % 3 == 0; i++) {
            pack(i);
        }
        while (calls < CALLS && !isWrong) {
            act();
        }
    }

    private void addCanopy() throws ReflectiveOperationException {
        int life = draw(5) == 0 ? 1 + draw(300) : 1 + draw(9999);
        char kind = draw(2) == 0 ? 'm' : 'r';
        call("addCanopy", kind, draw(lots), draw(lots), life);
        if (kinds.length() < 24) {
            kinds.append(kind);
        }
    }

    private int canopy() {
        return draw(badness) == 0 ? draw(30) - 2 : draw(canopies);
    }

    /** Mostly a canopy that is in this state and of this kind, or of either for '*'. */
    private int canopyIn(char state, char kind) {
        if (draw(badness) == 0) {
            return canopy();
        }
        for (int i = 0; i < 30; i++) {
            int drawn = draw(canopies);
            boolean isKind = kind == '*' || kinds.length() > drawn && kinds.charAt(drawn) == kind;
            if (isKind && kinds.length() > drawn && model.stateOf(drawn) == state) {
                return drawn;
            }
        }
        return draw(5) == 0 ? canopy() : NONE;
    }

    private boolean isBeingPacked(int canopy) {
        return canopy >= 0 && canopy < kinds.length() && model.stateOf(canopy) == 'p';
    }

    private int rigger() {
        return draw(badness) == 0 ? draw(12) - 2 : draw(riggers);
    }

    private int finding() {
        return draw(badness) == 0 ? draw(16) - 2 : draw(1 + draw(12));
    }

    private int load() {
        return draw(badness) == 0 ? draw(36) - 3 : Math.max(0, loads - 1 - draw(3));
    }

    private void act() throws ReflectiveOperationException {
        int kind = draw(100);
        if (kind < 26) {
            if (draw(4) == 0) {
                endPacking(canopyIn('p', '*'));
            } else {
                pack(canopyIn('o', '*'));
            }
        } else if (kind < 40) {
            tryOut();
        } else if (kind < 56) {
            actOnLoads();
        } else if (kind < 66) {
            actOnFindings();
        } else if (kind < 72) {
            lend();
        } else if (kind < 78) {
            passTime();
        } else if (kind < 81) {
            setUp();
        } else if (kind < 82) {
            misuse();
        } else {
            ask();
        }
    }

    private void pack(int canopy) throws ReflectiveOperationException {
        if (canopy == NONE) {
            return;
        }
        int hook = draw(badness) == 0 ? draw(9) - 1 : draw(6);
        call("hang", canopy, hook);
        if (!isBeingPacked(canopy) && draw(badness) != 0) {
            return;
        }
        int steps = draw(9) == 0 ? draw(5) : 5;
        int before = -1;
        for (int i = 0; i < steps; i++) {
            int rigger = rigger();
            if (rigger == before && draw(5) != 0) {
                rigger = (rigger + 1) % riggers;
            }
            call("step", canopy, rigger);
            before = rigger;
        }
        if (draw(12) == 0) {
            call("breakOff", canopy);
        }
    }

    private void endPacking(int canopy) throws ReflectiveOperationException {
        if (draw(3) == 0 && canopy != NONE) {
            call("breakOff", canopy);
        }
        for (int i = 0; i < 12 && isBeingPacked(canopy); i++) {
            call("step", canopy, rigger());
        }
    }

    private void tryOut() throws ReflectiveOperationException {
        int canopy = canopyIn('k', '*');
        if (canopy == NONE) {
            return;
        }
        int rounds = 1 + draw(4);
        for (int i = 0; i < rounds; i++) {
            call("drop", canopy, draw(12) != 0);
            call("isGrounded", canopy);
            if (draw(3) == 0) {
                call("repair", draw(9) == 0 ? canopy() : canopy, rigger());
            }
            if (i + 1 < rounds) {
                pack(canopy);
            }
        }
    }

    private void actOnLoads() throws ReflectiveOperationException {
        switch (draw(9)) {
            case 0:
                call("load");
                break;
            case 1:
                call("leave", load());
                break;
            case 2:
            case 3:
                call("jump", load(), draw(8) == 0 ? -1 - draw(9) : draw(64));
                break;
            default:
                int load = load();
                for (int i = draw(7); i >= 0; i--) {
                    board(load);
                }
                break;
        }
    }

    private void board(int load) throws ReflectiveOperationException {
        int main = canopyIn('k', 'm');
        int reserve = canopyIn('k', 'r');
        if (main != NONE && reserve != NONE) {
            call("board", load, main, reserve);
        }
    }

    private void actOnFindings() throws ReflectiveOperationException {
        switch (draw(9)) {
            case 0:
                for (int i = draw(11); i >= 0; i -= 4) {
                    call("find", canopy());
                }
                break;
            case 8:
            case 1:
            case 2:
                call("widen", finding());
                break;
            case 3:
            case 4:
                String causes = "lhrcslhrcs-xo";
                call("tellCause", finding(), causes.charAt(draw(causes.length())));
                break;
            case 5:
            case 6:
                call("close", finding());
                break;
            default:
                call("grounds", finding());
                call("groundedShare");
                break;
        }
    }

    private void lend() throws ReflectiveOperationException {
        boolean isHire = draw(2) == 0;
        int canopy = canopyIn(isHire ? 'k' : 'h', '*');
        if (canopy == NONE) {
            return;
        }
        if (isHire) {
            int days = draw(badness) == 0 ? draw(40) - 4 : 1 + draw(30);
            int deposit = draw(badness) == 0 ? draw(1200) - 100 : draw(150);
            call("hire", canopy, days, deposit);
            call("held");
        } else {
            call("back", canopy, draw(2) == 0, draw(6) == 0);
            call("kept");
        }
    }

    private void passTime() throws ReflectiveOperationException {
        int kind = draw(12);
        if (kind == 0) {
            call("goOn", draw(1100) - 50);
        } else if (kind == 1) {
            call("setPeriod", draw(1100) - 50);
        } else if (kind == 2) {
            call("setPeriod", 1 + draw(60));
        } else if (kind == 3 && run % 11 == 0) {
            for (int i = 0; i < 10; i++) {
                call("goOn", 999);
            }
        } else {
            call("goOn", 1 + draw(25));
        }
    }

    private void setUp() throws ReflectiveOperationException {
        if (draw(3) == 0) {
            addCanopy();
        } else if (draw(3) == 0) {
            call("addRigger", draw(64), draw(9999));
        } else if (draw(9) == 0) {
            for (int i = 0; i < 31; i++) {
                call("load");
            }
        } else {
            int licences = draw(badness) == 0 ? draw(80) - 8 : 63 - draw(3);
            call("setLicences", rigger(), licences, draw(9) == 0 ? draw(12000) - 1000 : 9999);
        }
    }

    private void misuse() throws ReflectiveOperationException {
        switch (draw(4)) {
            case 0:
                call("addCanopy", (char) (106 + draw(12)), draw(14) - 2, draw(14) - 2, 1);
                break;
            case 1:
                call("addRigger", draw(80) - 8, draw(12000) - 1000);
                break;
            case 2:
                call("step", canopy(), rigger());
                break;
            default:
                call("addCanopy", 'm', 0, 0, draw(12000) - 1000);
                break;
        }
    }

    private void ask() throws ReflectiveOperationException {
        String[] ofCanopy = {"stateOf", "isGrounded", "isOut", "packings", "jumps", "sharers"};
        int kind = draw(9);
        if (kind < 5) {
            call(ofCanopy[draw(ofCanopy.length)], canopy());
        } else if (kind == 5) {
            String things = "hd01234hd012345x/";
            char what = things.charAt(draw(things.length()));
            call("packingOf", canopy(), draw(badness) == 0 ? draw(9) - 2 : draw(3), what);
        } else if (kind == 6) {
            call(draw(2) == 0 ? "groundedShare" : "meanDrops");
        } else if (kind == 7) {
            call("next");
        } else {
            call("isSound");
        }
    }

    private void askAll() throws ReflectiveOperationException {
        call("held");
        call("kept");
        call("groundedShare");
        call("meanDrops");
        call("next");
        call("isSound");
    }

    private void call(String name, Object... arguments) throws ReflectiveOperationException {
        if (calls >= CALLS || isWrong) {
            return;
        }
        calls++;
        String got = answer(loft, name, arguments);
        String due = answer(model, name, arguments);
        boolean isAnswer = got.startsWith("=");
        loads += isAnswer && name.equals("load") ? 1 : 0;
        outcomes.merge(name + " " + (isAnswer ? "answers" : got), 1, Integer::sum);
        if (!got.equals(due)) {
            isWrong = true;
            String what = "run " + run + ", call " + calls + ", " + name
                    + Arrays.toString(arguments);
            Due.note(what, false, got, due);
        }
    }

    private static String answer(Object object, String name, Object[] arguments)
            throws ReflectiveOperationException {
        Method method = methodOf(object.getClass(), name);
        try {
            return "=" + method.invoke(object, arguments);
        } catch (InvocationTargetException e) {
            return e.getCause().getClass().getSimpleName();
        }
    }

    private static final Map<String, Method> METHODS = new TreeMap<>(Comparator.naturalOrder());

    private static Method methodOf(Class<?> type, String name) {
        return METHODS.computeIfAbsent(type.getName() + name, key -> {
            for (Method method : type.getDeclaredMethods()) {
                boolean isPublic = java.lang.reflect.Modifier.isPublic(method.getModifiers());
                if (isPublic && method.getName().equals(name)) {
                    return method;
                }
            }
            throw new IllegalArgumentException(name);
        });
    }
}
