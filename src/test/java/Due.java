import java.util.Objects;

/** Counts and prints the answers that are not as due, with the sentence of the document that they break. */
final class Due {
    /** A call of the class, whose answer is compared. */
    interface Call {
        Object answer();
    }

    private String sentence = "";
    private int sentences = 0;
    private int checks = 0;
    private int wrong = 0;

    /** The test of one sentence of the document. */
    void sentence(String words, Runnable test) {
        sentence = words;
        sentences++;
        try {
            test.run();
        } catch (RuntimeException e) {
            // A call that ought to answer may throw: the other sentences are tested all the same.
            is("a call that ought to answer", "no exception", e);
        }
        sentence = "";
    }

    /** A value that is due; whole numbers are compared as long. */
    void is(String call, Object want, Object got) {
        checks++;
        if (!Objects.equals(widened(want), widened(got))) {
            wrong++;
            System.out.println("[" + sentence + "] " + call + " answered " + got + ", due is " + want);
        }
    }

    void refuses(String call, Class<? extends RuntimeException> want, Call made) {
        is(call, "throws." + want.getSimpleName(), answerOf(made));
    }

    /** The answer, or the name of the exception behind "throws.". */
    static Object answerOf(Call made) {
        try {
            return made.answer();
        } catch (RuntimeException e) {
            return "throws." + e.getClass().getSimpleName();
        }
    }

    private static Object widened(Object value) {
        return value instanceof Integer ? Long.valueOf((Integer) value) : value;
    }

    void end(String test) {
        System.out.println(test + ": " + sentences + " sentences, " + checks + " checks, " + wrong + " wrong");
        if (wrong != 0) {
            System.exit(1);
        }
    }
}
