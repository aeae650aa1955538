import java.io.IOException;
import java.lang.reflect.Method;
import java.lang.reflect.Modifier;
import java.nio.charset.StandardCharsets;
import java.nio.file.Files;
import java.nio.file.Path;
import java.util.ArrayList;
import java.util.List;

/** README.md: its example answers what it says, and it names the whole face. */
public final class ReadmeTest {
    private static final Path README = Path.of("README.md");
    private static final Path THIS = Path.of("src/test/java/ReadmeTest.java");
    private static final String BEGIN = "// The example begins.";
    private static final String END = "// The example ends.";

    public static void main(String[] args) {
        exampleAnswersWhatItSays();
        exampleIsTheOneHere();
        allMethodsAreNamed();
        Due.end();
    }

    private static void exampleAnswersWhatItSays() {
        // The example begins.
        Silkloft loft = new Silkloft();
        int anna = loft.addRigger(63, 365);
        int ben = loft.addRigger(31, 365);
        int main = loft.addCanopy('m', 1, 2, 900);
        int reserve = loft.addCanopy('r', 3, 4, 900);

        int inUse = loft.hang(main, 0);
        for (int i = 0; i < 4; i++) {
            loft.step(main, anna);
        }
        int steps = loft.step(main, ben);
        loft.hang(reserve, 3);
        for (int i = 0; i < 4; i++) {
            loft.step(reserve, ben);
        }
        loft.step(reserve, anna);
        char state = loft.stateOf(reserve);
        int hook = loft.packingOf(reserve, 0, 'h');

        int load = loft.load();
        int aboard = loft.board(load, main, reserve);
        int jumped = loft.jump(load, 0);

        int frayed = loft.find(main);
        int level = loft.widen(frayed);
        char before = loft.tellCause(frayed, 's');
        boolean isGrounded = loft.isGrounded(main);
        int repairs = loft.repair(main, anna);
        boolean isClosed = loft.close(frayed);

        int due = loft.hire(reserve, 7, 100);
        int day = loft.goOn(9);
        int paid = loft.back(reserve, false, false);
        long kept = loft.kept();
        int first = loft.next();
        boolean isSound = loft.isSound();
        // The example ends.
        said("anna", anna);
        said("ben", ben);
        said("main", main);
        said("reserve", reserve);
        said("inUse", inUse);
        said("steps", steps);
        said("state", "'" + state + "'");
        said("hook", hook);
        said("load", load);
        said("aboard", aboard);
        said("jumped", jumped);
        said("frayed", frayed);
        said("level", level);
        said("before", "'" + before + "'");
        said("isGrounded", isGrounded);
        said("repairs", repairs);
        said("isClosed", isClosed);
        said("due", due);
        said("day", day);
        said("paid", paid);
        said("kept", kept);
        said("first", first);
        said("isSound", isSound);
    }

    /** The README has, behind the call that answers this, a comment that begins with the answer. */
    private static void said(String name, Object answer) {
        String due = "nothing";
        for (String line : example()) {
            int comment = line.indexOf("// ");
            if (line.contains(" " + name + " = ") && comment >= 0) {
                due = line.substring(comment + 3).split(";")[0];
            }
        }
        Due.note(name, due.equals(answer.toString()), answer.toString(), due);
    }

    private static void exampleIsTheOneHere() {
        List<String> readme = new ArrayList<>();
        for (String line : example()) {
            addCode(readme, line.split("// ", -1)[0]);
        }
        List<String> here = new ArrayList<>();
        boolean isIn = false;
        for (String line : linesOf(THIS)) {
            isIn &= !line.trim().equals(END);
            if (isIn) {
                addCode(here, line);
            }
            isIn |= line.trim().equals(BEGIN);
        }
        Due.note("the example", readme.equals(here) && !here.isEmpty(),
                String.join("\n", readme), String.join("\n", here));
    }

    private static void addCode(List<String> code, String line) {
        if (!line.isBlank()) {
            code.add(line.trim());
        }
    }

    private static void allMethodsAreNamed() {
        String text = String.join("\n", linesOf(README));
        for (Method method : Silkloft.class.getDeclaredMethods()) {
            if (Modifier.isPublic(method.getModifiers())) {
                Due.is(method.getName() + " is named",
                        text.contains("`" + method.getName() + "`"), true);
            }
        }
        Due.is("how the tests are run", text.contains("    .ci/run\n"), true);
    }

    private static List<String> example() {
        List<String> lines = new ArrayList<>();
        boolean isIn = false;
        for (String line : linesOf(README)) {
            if (line.startsWith("```")) {
                isIn = line.equals("```java");
            } else if (isIn) {
                lines.add(line);
            }
        }
        return lines;
    }

    private static List<String> linesOf(Path path) {
        try {
            return Files.readAllLines(path, StandardCharsets.UTF_8);
        } catch (IOException e) {
            Due.note(path.toString(), false, "not to be read", "a file");
            return List.of();
        }
    }
}
