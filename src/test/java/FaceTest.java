import java.lang.reflect.Constructor;
import java.lang.reflect.Field;
import java.lang.reflect.Member;
import java.lang.reflect.Method;
import java.lang.reflect.Modifier;
import java.util.ArrayList;
import java.util.Collections;
import java.util.List;

/** The face of the class: what the document lists, and nothing beside it. */
public final class FaceTest {
    private static final String I = "IndexOutOfBoundsException";
    private static final String A = "IllegalArgumentException";
    private static final String U = "UnsupportedOperationException";
    private static final String S = "IllegalStateException";
    private static final String[][] FACE = {
        {"int addRigger(int,int)", A, S},
        {"int setLicences(int,int,int)", I, A},
        {"int addCanopy(char,int,int,int)", A, S},
        {"int setPeriod(int)", A},
        {"int goOn(int)", A, S},
        {"int hang(int,int)", I, A, U, S},
        {"int step(int,int)", I, U, A},
        {"int breakOff(int)", I, U},
        {"int load()", S},
        {"int board(int,int,int)", I, A, U, S},
        {"int leave(int)", I, U},
        {"int jump(int,int)", I, U},
        {"int find(int)", I, S},
        {"int widen(int)", I, U},
        {"char tellCause(int,char)", I, A, U},
        {"boolean close(int)", I},
        {"int grounds(int)", I},
        {"int repair(int,int)", I, U, A},
        {"int drop(int,boolean)", I, U},
        {"int hire(int,int,int)", I, A, U},
        {"int back(int,boolean,boolean)", I, U},
        {"char stateOf(int)", I},
        {"boolean isGrounded(int)", I},
        {"boolean isOut(int)", I},
        {"int packings(int)", I},
        {"int packingOf(int,int,char)", I, A},
        {"int jumps(int)", I},
        {"int sharers(int)", I},
        {"int next()", "NoSuchElementException"},
        {"long held()"},
        {"long kept()"},
        {"float groundedShare()", "ArithmeticException"},
        {"double meanDrops()", "ArithmeticException"},
        {"boolean isSound()"},
    };

    public static void main(String[] args) {
        classIsPublicAndFinal();
        constructorIsAsDue();
        methodsAreAsDue();
        nothingElseIsSeen();
        Due.end();
    }

    private static void classIsPublicAndFinal() {
        int modifiers = Silkloft.class.getModifiers();
        Due.is("public class", Modifier.isPublic(modifiers), true);
        Due.is("final class", Modifier.isFinal(modifiers), true);
    }

    private static void constructorIsAsDue() {
        Constructor<?>[] all = Silkloft.class.getDeclaredConstructors();
        Due.is("constructors", all.length, 1);
        Due.is("public constructor", Modifier.isPublic(all[0].getModifiers()), true);
        Due.is("its parameters", all[0].getParameterCount(), 0);
        Due.is("its exceptions", all[0].getExceptionTypes().length, 0);
    }

    private static void methodsAreAsDue() {
        List<String> due = new ArrayList<>();
        for (String[] row : FACE) {
            StringBuilder text = new StringBuilder(row[0]);
            for (int i = 1; i < row.length; i++) {
                text.append(' ').append(row[i]);
            }
            due.add(text.toString());
        }
        List<String> got = new ArrayList<>();
        for (Method method : Silkloft.class.getDeclaredMethods()) {
            if (Modifier.isPublic(method.getModifiers())) {
                got.add(describe(method));
                Due.is(method.getName() + " is static",
                        Modifier.isStatic(method.getModifiers()), false);
            }
        }
        Collections.sort(due);
        Collections.sort(got);
        Due.note("public methods", got.equals(due), got.toString(), due.toString());
    }

    private static String describe(Method method) {
        StringBuilder text = new StringBuilder(method.getReturnType().getSimpleName());
        text.append(' ').append(method.getName()).append('(');
        Class<?>[] types = method.getParameterTypes();
        for (int i = 0; i < types.length; i++) {
            text.append(i == 0 ? "" : ",").append(types[i].getSimpleName());
        }
        text.append(')');
        for (Class<?> thrown : method.getExceptionTypes()) {
            text.append(' ').append(thrown.getSimpleName());
        }
        return text.toString();
    }

    private static void nothingElseIsSeen() {
        List<Member> hidden = new ArrayList<>();
        for (Field field : Silkloft.class.getDeclaredFields()) {
            hidden.add(field);
            if (Modifier.isStatic(field.getModifiers())) {
                Due.is(field.getName() + " is final",
                        Modifier.isFinal(field.getModifiers()), true);
            }
        }
        for (Method method : Silkloft.class.getDeclaredMethods()) {
            if (!Modifier.isPublic(method.getModifiers())) {
                hidden.add(method);
            }
        }
        for (Member member : hidden) {
            if (!member.isSynthetic()) {
                Due.is(member.getName() + " is private",
                        Modifier.isPrivate(member.getModifiers()), true);
            }
        }
    }
}
