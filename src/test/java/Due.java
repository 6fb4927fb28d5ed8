import java.util.Objects;

/** Counts and prints the answers that are not as due. */
final class Due {
    /** A call of the class, whose answer is compared. */
    interface Call {
        Object answer();
    }

    private int checks = 0;
    private int wrong = 0;

    /** A value that is due; whole numbers are compared as long. */
    void is(String call, Object want, Object got) {
        checks++;
        if (!Objects.equals(widened(want), widened(got))) {
            wrong++;
            System.out.println(call + " answered " + got + ", due is " + want);
        }
    }

    void refuses(String call, Class<? extends RuntimeException> want, Call made) {
        is(call, "throws." + want.getSimpleName(), answerOf(made));
    }

    /** The answer, or the name of the exception behind "throws.". */
    static Object answerOf(Call made) {
        try {
            return made.answer();
        } catch (RuntimeException e) {
            return "throws." + e.getClass().getSimpleName();
        }
    }

    private static Object widened(Object value) {
        return value instanceof Integer ? Long.valueOf((Integer) value) : value;
    }

    void end(String test) {
        System.out.println(test + ": " + checks + " checks, " + wrong + " wrong");
        if (wrong != 0) {
            System.exit(1);
        }
    }
}
