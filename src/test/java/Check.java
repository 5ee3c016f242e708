import java.util.Objects;

/** Counts the answers that are not the ones due, and ends the test with exit code 1 if there were any. */
final class Check {
    private int wrong;
    private String sentence = "";

    /** What the document says, told with each wrong answer until the next sentence. */
    void sentence(String text) {
        sentence = " [" + text + "]";
    }

    void same(String call, long got, long due) {
        if (got != due) {
            fail(call + " answered " + got + ", due is " + due);
        }
    }

    void same(String call, boolean got, boolean due) {
        same(call, got ? 1 : 0, due ? 1 : 0);
    }

    void same(String call, String got, String due) {
        if (!Objects.equals(got, due)) {
            fail(call + " is " + got + ", due is " + due);
        }
    }

    /** For numbers, which are read more easily in hexadecimal digits. */
    void sameNumber(String call, int got, int due) {
        same(call, String.format("%08X", got), String.format("%08X", due));
    }

    void badArgument(String call, Runnable action) {
        refused(call, IllegalArgumentException.class, action);
    }

    void badState(String call, Runnable action) {
        refused(call, IllegalStateException.class, action);
    }

    private void refused(String call, Class<? extends RuntimeException> due, Runnable action) {
        try {
            action.run();
        } catch (RuntimeException thrown) {
            same(call + " throws", thrown.getClass().getName(), due.getName());
            return;
        }
        fail(call + " threw nothing, due is " + due.getName());
    }

    void fail(String text) {
        wrong++;
        if (wrong <= 40) {
            System.out.println(text + sentence);
        }
    }

    void end() {
        if (wrong > 0) {
            System.out.println(wrong + " answers are not as due");
            System.exit(1);
        }
    }
}
