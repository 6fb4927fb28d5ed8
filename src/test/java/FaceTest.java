import java.lang.reflect.Constructor;
import java.lang.reflect.Field;
import java.lang.reflect.Method;
import java.lang.reflect.Modifier;
import java.util.Arrays;
import java.util.TreeSet;

/** The public face: what the class shows, and that it shows nothing else. */
public final class FaceTest {
    private static final String[] FACE = {
        "int addGuard()",
        "int arrive(int,int,int,int)",
        "int declare(int,int)",
        "int sing(int,int)",
        "int wake(int)",
        "int pass(int)",
        "int minute()",
        "int travellers()",
        "int waiting()",
        "int asleep()",
        "int sentBack()",
        "int expired()",
        "int paid()",
        "int noise()",
        "int nextInLine()",
        "int stateOf(int)",
        "int hiddenOf(int)",
        "int lullabyOf(int)",
        "int placeInLine(int)",
        "int searchTime(int)",
        "int guards()",
        "int alertnessOf(int)",
        "int searches(int)",
        "int minutesToGo(int)",
        "boolean wouldFind(int,int)",
        "int mostAlert()",
        "int minutesUntilAsleep(int)",
        "int asleepIn(int)",
        "int bestToDeclare(int)",
        "int guardsWanted()",
        "double meanAlertness()",
        "long digest()",
    };

    private static final Due due = new Due();

    public static void main(String[] args) {
        due.sentence("public final class SleepBorder", FaceTest::theClassIsPublicAndFinal);
        due.sentence("public SleepBorder()", FaceTest::oneConstructorIsShown);
        due.sentence("The public face: its methods", FaceTest::theMethodsOfTheFaceAreShown);
        due.sentence("The public face: no fields", FaceTest::noFieldIsShown);
        due.end("FaceTest");
    }

    private static void theClassIsPublicAndFinal() {
        due.is("modifiers", Modifier.PUBLIC | Modifier.FINAL, SleepBorder.class.getModifiers());
        due.is("superclass", Object.class, SleepBorder.class.getSuperclass());
        due.is("interfaces", 0, SleepBorder.class.getInterfaces().length);
    }

    private static void oneConstructorIsShown() {
        int shown = 0;
        for (Constructor<?> made : SleepBorder.class.getDeclaredConstructors()) {
            if (!Modifier.isPrivate(made.getModifiers())) {
                shown++;
                due.is("constructor", "public SleepBorder()", made.toString());
            }
        }
        due.is("constructors", 1, shown);
    }

    private static void theMethodsOfTheFaceAreShown() {
        TreeSet<String> shown = new TreeSet<>();
        for (Method method : SleepBorder.class.getDeclaredMethods()) {
            if (!Modifier.isPrivate(method.getModifiers()) && !method.isSynthetic()) {
                shown.add(written(method));
            }
        }
        due.is("methods", new TreeSet<>(Arrays.asList(FACE)), shown);
    }

    private static void noFieldIsShown() {
        for (Field field : SleepBorder.class.getDeclaredFields()) {
            due.is(field + " is private", true, Modifier.isPrivate(field.getModifiers()) || field.isSynthetic());
        }
    }

    private static String written(Method method) {
        StringBuilder text = new StringBuilder();
        if (!Modifier.isPublic(method.getModifiers()) || Modifier.isStatic(method.getModifiers())) {
            text.append(Modifier.toString(method.getModifiers())).append(' ');
        }
        text.append(method.getReturnType().getSimpleName()).append(' ').append(method.getName()).append('(');
        for (int i = 0; i < method.getParameterCount(); i++) {
            text.append(i == 0 ? "" : ",").append(method.getParameterTypes()[i].getSimpleName());
        }
        return text.append(')').toString();
    }
}
