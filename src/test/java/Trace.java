import java.util.ArrayList;
import java.util.List;

/**
 * All that a loft tells of itself, so that two lofts can be compared: what it answers, and what
 * comes of acts that are done with it at last. It uses the loft up, by some 20 calls a canopy.
 */
final class Trace {
    private interface Ask {
        Object answer();
    }

    private static final List<String> NAMED = List.of("IndexOutOfBoundsException",
            "IllegalArgumentException", "UnsupportedOperationException", "IllegalStateException",
            "NoSuchElementException", "ArithmeticException");

    private final Silkloft loft;
    private final List<String> lines = new ArrayList<>();

    private Trace(Silkloft loft) {
        this.loft = loft;
    }

    /** The first line in which two lofts differ, or "same". */
    static String difference(Silkloft one, Silkloft other) {
        List<String> first = of(one);
        List<String> second = of(other);
        for (int i = 0; i < first.size() && i < second.size(); i++) {
            if (!first.get(i).equals(second.get(i))) {
                return first.get(i) + " and not " + second.get(i);
            }
        }
        return first.size() == second.size() ? "same" : "another number of lines";
    }

    private static List<String> of(Silkloft loft) {
        Trace trace = new Trace(loft);
        trace.askOfAll();
        int canopies = trace.askOfCanopies();
        int findings = trace.askOfFindings();
        trace.actOnStaff();
        trace.actOnFindings(findings);
        trace.actOnLoads();
        for (int i = 0; i < canopies; i++) {
            trace.actOnCanopy(i);
        }
        trace.addOneOfEach();
        trace.askOfAll();
        return trace.lines;
    }

    /** Writes a line, and tells whether there is the one that was asked for. */
    private boolean note(String what, Ask ask) {
        String got;
        try {
            got = String.valueOf(ask.answer());
        } catch (RuntimeException e) {
            got = e.getClass().getSimpleName();
            if (!NAMED.contains(got)) {
                Due.note(what, false, got, "an answer, or an exception that the document names");
            }
        }
        lines.add(what + ": " + got);
        return !got.equals("IndexOutOfBoundsException");
    }

    private void askOfAll() {
        note("held", () -> loft.held());
        note("kept", () -> loft.kept());
        note("next", () -> loft.next());
        note("groundedShare", () -> loft.groundedShare());
        note("meanDrops", () -> loft.meanDrops());
        note("isSound", () -> loft.isSound());
        if (!lines.get(lines.size() - 1).endsWith("true")) {
            Due.note("isSound", false, "false", "true");
        }
    }

    private int askOfCanopies() {
        int canopies = 0;
        while (askOfCanopy(canopies)) {
            canopies++;
        }
        return canopies;
    }

    private boolean askOfCanopy(int canopy) {
        if (!note("stateOf " + canopy, () -> loft.stateOf(canopy))) {
            return false;
        }
        note("isGrounded " + canopy, () -> loft.isGrounded(canopy));
        note("isOut " + canopy, () -> loft.isOut(canopy));
        note("packings " + canopy, () -> loft.packings(canopy));
        note("jumps " + canopy, () -> loft.jumps(canopy));
        note("sharers " + canopy, () -> loft.sharers(canopy));
        int packing = 0;
        while (askOfPacking(canopy, packing)) {
            packing++;
        }
        return true;
    }

    private boolean askOfPacking(int canopy, int packing) {
        String what = "packing " + canopy + " " + packing + " ";
        if (!note(what + "h", () -> loft.packingOf(canopy, packing, 'h'))) {
            return false;
        }
        for (char sign : "d01234".toCharArray()) {
            note(what + sign, () -> loft.packingOf(canopy, packing, sign));
        }
        return true;
    }

    private int askOfFindings() {
        int findings = 0;
        while (groundsIsTold(findings)) {
            findings++;
        }
        return findings;
    }

    private boolean groundsIsTold(int finding) {
        return note("grounds " + finding, () -> loft.grounds(finding));
    }

    /** Gives the rigger 0 all licences, so that canopies can be repaired then. */
    private void actOnStaff() {
        int rigger = 0;
        while (licencesAreTold(rigger)) {
            rigger++;
        }
        note("setPeriod", () -> loft.setPeriod(999));
        note("goOn", () -> loft.goOn(1));
    }

    private boolean licencesAreTold(int rigger) {
        return note("setLicences " + rigger, () -> loft.setLicences(rigger, 63, 9999));
    }

    private void actOnFindings(int findings) {
        for (int i = 0; i < findings; i++) {
            int finding = i;
            note("widen " + i, () -> loft.widen(finding));
            note("tellCause " + i, () -> loft.tellCause(finding, 's'));
            note("close " + i, () -> loft.close(finding));
        }
    }

    private void actOnLoads() {
        int load = 0;
        while (leavingIsTold(load)) {
            load++;
        }
    }

    private boolean leavingIsTold(int load) {
        return note("leave " + load, () -> loft.leave(load));
    }

    private void actOnCanopy(int canopy) {
        note("breakOff " + canopy, () -> loft.breakOff(canopy));
        note("back " + canopy, () -> loft.back(canopy, false, false));
        note("drop " + canopy, () -> loft.drop(canopy, true));
        note("repair " + canopy, () -> loft.repair(canopy, 0));
        note("stateOf " + canopy + " then", () -> loft.stateOf(canopy));
    }

    private void addOneOfEach() {
        note("addRigger", () -> loft.addRigger(0, 0));
        note("addCanopy", () -> loft.addCanopy('m', 0, 0, 1));
        note("load", () -> loft.load());
        note("find", () -> loft.find(0));
        note("hang", () -> loft.hang(0, 0));
    }
}
