import java.lang.reflect.Constructor;
import java.lang.reflect.Field;
import java.lang.reflect.Method;
import java.lang.reflect.Modifier;
import java.util.Arrays;
import java.util.TreeSet;

/** The class has the document's public face, and nothing beside it. */
public final class FaceTest {
    private static final String BOUNDS = " IndexOutOfBoundsException";
    private static final String ARGUMENT = " IllegalArgumentException";
    private static final String STATE = " IllegalStateException";

    private static final String[] DUE = {
        "int addLetter()" + STATE,
        "int copyLetter(int)" + BOUNDS + STATE,
        "int write(int,int)" + BOUNDS + ARGUMENT + STATE,
        "int erase(int)" + BOUNDS + STATE,
        "int forge(int,int)" + BOUNDS + STATE,
        "int tear(int,int)" + BOUNDS + STATE,
        "int mend(int,int,int)" + BOUNDS + ARGUMENT + STATE,
        "int seal(int)" + BOUNDS + STATE,
        "int unseal()" + STATE,
        "int letters()",
        "int signsOf(int)" + BOUNDS,
        "int commasOf(int)" + BOUNDS,
        "int tearsOf(int)" + BOUNDS,
        "int digestOf(int)" + BOUNDS,
        "int signAt(int,int)" + BOUNDS,
        "int sumOf(int,int,int)" + BOUNDS + ARGUMENT,
        "int sameSums(int,int)" + BOUNDS + ARGUMENT,
        "int falseAlarms(int,int)" + BOUNDS + ARGUMENT,
        "int firstOf(int,int)" + BOUNDS + STATE,
        "int doubles()",
        "int envelopes()",
        "int letterIn(int)" + BOUNDS,
        "int digestIn(int)" + BOUNDS,
        "int sealOf(int)" + BOUNDS,
        "boolean isWhole(int)" + BOUNDS,
        "int firstBroken()",
        "int tornBlocks(int)" + BOUNDS,
        "int firstTorn(int)" + BOUNDS,
        "int changedPlace(int)" + BOUNDS,
        "int changedSign(int)" + BOUNDS + STATE,
        "int wouldSeal(int)" + BOUNDS + STATE,
        "int unnoticed(int)" + BOUNDS,
        "int worstTear(int)" + BOUNDS,
        "double meanSigns()",
        "long digest()",
    };

    public static void main(String[] args) {
        Check check = new Check();
        TreeSet<String> shown = new TreeSet<>();
        TreeSet<String> hidden = new TreeSet<>();
        for (Method method : LetterSeals.class.getDeclaredMethods()) {
            if (Modifier.isPrivate(method.getModifiers())) {
                hidden.add(method.getName());
            } else if (!method.isSynthetic()) {
                shown.add(described(method));
            }
        }
        check.equal("the face", shown.toString(), new TreeSet<>(Arrays.asList(DUE)).toString());
        for (String name : hidden) {
            check.no("a private method has the name of a public one: " + name,
                Arrays.stream(DUE).anyMatch(due -> due.contains(" " + name + "(")));
        }
        for (Field field : LetterSeals.class.getDeclaredFields()) {
            check.yes(field + " is private", Modifier.isPrivate(field.getModifiers()));
            check.yes(field + " is final, if it is static", !Modifier.isStatic(field.getModifiers())
                || Modifier.isFinal(field.getModifiers()));
        }
        Constructor<?>[] constructors = LetterSeals.class.getDeclaredConstructors();
        check.equal("constructors", constructors.length, 1);
        check.equal("the constructor", constructors[0].toString(), "public LetterSeals()");
        check.equal("the class", Modifier.toString(LetterSeals.class.getModifiers()), "public final");
        check.end();
    }

    private static String described(Method method) {
        StringBuilder text = new StringBuilder();
        text.append(method.getReturnType().getSimpleName()).append(' ').append(method.getName()).append('(');
        for (int i = 0; i < method.getParameterCount(); i++) {
            text.append(i == 0 ? "" : ",").append(method.getParameterTypes()[i].getSimpleName());
        }
        text.append(')');
        for (Class<?> thrown : method.getExceptionTypes()) {
            text.append(' ').append(thrown.getSimpleName());
        }
        return text.toString();
    }
}
