import java.lang.reflect.InvocationTargetException;
import java.lang.reflect.Method;
import java.util.ArrayList;
import java.util.Arrays;
import java.util.List;

/** Runs of calls, the same ones each time, on an object and on the model: both must answer alike. */
public final class RandomRunsTest {
    private static final int RUNS = 300;
    /** With the digest at the end, as many as an object is used for. */
    private static final int CALLS = 511;
    private static final int[] ODD = {-1, 10, 24, 61, 0, 60, 9, 4, Integer.MIN_VALUE, Integer.MAX_VALUE};

    private static final Due due = new Due();

    private static long seed = 1;

    public static void main(String[] args) {
        List<Method> all = new ArrayList<>();
        for (Method method : SleepBorder.class.getMethods()) {
            if (method.getDeclaringClass() == SleepBorder.class) {
                all.add(method);
            }
        }
        // The order in which the machine names methods is not fixed.
        all.sort((a, b) -> a.getName().compareTo(b.getName()));
        for (int run = 0; run < RUNS; run++) {
            oneRun(run, all);
        }
        due.end("RandomRunsTest");
    }

    private static void oneRun(int run, List<Method> all) {
        SleepBorder x = new SleepBorder();
        Model model = new Model();
        int longestPass = 1 + run % 20;
        for (int call = 0; call < CALLS; call++) {
            Method method = chosen(all);
            int[] numbers = numbers(method, longestPass);
            due.is("run " + run + ", call " + call + ", " + method.getName() + Arrays.toString(numbers),
                model.call(method.getName(), numbers), answerOf(x, method, numbers));
        }
        due.is("run " + run + ", digest()", model.call("digest"), x.digest());
    }

    /** Travellers come more often than all calls would let them, and dear calls of the model less often. */
    private static Method chosen(List<Method> all) {
        String wanted = below(4) == 0 ? "arrive" : below(8) == 0 ? "sing" : "";
        Method method = all.get(below(all.size()));
        for (Method other : all) {
            if (other.getName().equals(wanted)) {
                method = other;
            }
        }
        return method;
    }

    private static int[] numbers(Method method, int longestPass) {
        int[] numbers = new int[method.getParameterCount()];
        String name = method.getName();
        for (int i = 0; i < numbers.length; i++) {
            numbers[i] = number(name, i, longestPass);
            if (below(25) == 0) {
                numbers[i] = ODD[below(ODD.length)];
            }
        }
        return numbers;
    }

    private static int number(String name, int place, int longestPass) {
        switch (name) {
            case "arrive": return place == 3 ? 1 + below(60) : below(10);
            case "declare": return place == 1 ? below(10) : below(24);
            case "sing": return place == 1 ? 1 + below(60) : below(24);
            case "pass": return 1 + below(longestPass);
            case "asleepIn": return 1 + below(60);
            case "wake":
            case "alertnessOf":
            case "searches":
            case "minutesToGo": return below(4);
            case "wouldFind": return place == 0 ? below(4) : below(24);
            default: return below(24);
        }
    }

    private static Object answerOf(SleepBorder x, Method method, int[] numbers) {
        Object[] boxed = new Object[numbers.length];
        for (int i = 0; i < boxed.length; i++) {
            boxed[i] = numbers[i];
        }
        try {
            return method.invoke(x, boxed);
        } catch (InvocationTargetException e) {
            return "throws." + e.getCause().getClass().getSimpleName();
        } catch (IllegalAccessException e) {
            return "cannot be called";
        }
    }

    private static int below(int bound) {
        seed = seed * 6364136223846793005L + 1442695040888963407L;
        return (int) ((seed >>> 33) % bound);
    }
}
