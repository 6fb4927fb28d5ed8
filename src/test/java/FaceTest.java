import java.lang.reflect.Constructor;
import java.lang.reflect.Field;
import java.lang.reflect.Method;
import java.lang.reflect.Modifier;
import java.util.Arrays;
import java.util.TreeSet;

/** The public face: what the class shows, and that it shows nothing else. */
public final class FaceTest {
    private static final String[] FACE = {
        "int addGuard() IllegalStateException",
        "int arrive(int,int,int,int) IllegalArgumentException IllegalStateException",
        "int declare(int,int) IndexOutOfBoundsException IllegalArgumentException IllegalStateException",
        "int sing(int,int) IndexOutOfBoundsException IllegalArgumentException IllegalStateException",
        "int wake(int) IndexOutOfBoundsException",
        "int pass(int) IllegalArgumentException",
        "int minute()",
        "int travellers()",
        "int waiting()",
        "int asleep()",
        "int sentBack()",
        "int expired()",
        "int paid()",
        "int noise()",
        "int nextInLine()",
        "int stateOf(int) IndexOutOfBoundsException",
        "int hiddenOf(int) IndexOutOfBoundsException",
        "int lullabyOf(int) IndexOutOfBoundsException",
        "int placeInLine(int) IndexOutOfBoundsException",
        "int searchTime(int) IndexOutOfBoundsException",
        "int guards()",
        "int alertnessOf(int) IndexOutOfBoundsException",
        "int searches(int) IndexOutOfBoundsException",
        "int minutesToGo(int) IndexOutOfBoundsException",
        "boolean wouldFind(int,int) IndexOutOfBoundsException",
        "int mostAlert()",
        "int minutesUntilAsleep(int) IndexOutOfBoundsException",
        "int asleepIn(int) IllegalArgumentException",
        "int bestToDeclare(int) IndexOutOfBoundsException",
        "int guardsWanted()",
        "double meanAlertness()",
        "long digest()",
    };

    public static void main(String[] args) {
        Due due = new Due();
        Class<?> type = SleepBorder.class;
        due.is("modifiers", Modifier.PUBLIC | Modifier.FINAL, type.getModifiers());
        due.is("methods", new TreeSet<>(Arrays.asList(FACE)), shownMethods(type));
        due.is("constructors", 1, type.getDeclaredConstructors().length);
        for (Constructor<?> made : type.getDeclaredConstructors()) {
            due.is("constructor", "public SleepBorder()", made.toString());
        }
        for (Field field : type.getDeclaredFields()) {
            due.is(field + " is private and final", true,
                Modifier.isPrivate(field.getModifiers()) && Modifier.isFinal(field.getModifiers()));
        }
        due.end("FaceTest");
    }

    private static TreeSet<String> shownMethods(Class<?> type) {
        TreeSet<String> shown = new TreeSet<>();
        for (Method method : type.getDeclaredMethods()) {
            if (!Modifier.isPrivate(method.getModifiers())) {
                shown.add(written(method));
            }
        }
        return shown;
    }

    private static String written(Method method) {
        StringBuilder text = new StringBuilder();
        text.append(Modifier.isStatic(method.getModifiers()) ? "static " : "");
        text.append(method.getReturnType().getSimpleName()).append(' ').append(method.getName()).append('(');
        for (int i = 0; i < method.getParameterCount(); i++) {
            text.append(i == 0 ? "" : ",").append(method.getParameterTypes()[i].getSimpleName());
        }
        text.append(')');
        for (Class<?> thrown : method.getExceptionTypes()) {
            text.append(' ').append(thrown.getSimpleName());
        }
        return text.toString();
    }
}
