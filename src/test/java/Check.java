import java.util.Arrays;
import java.util.NoSuchElementException;

/** Counts the answers that are not as due; end() ends the program with exit code 1 if there was one. */
final class Check {
    static final Class<IllegalArgumentException> ARGUMENT = IllegalArgumentException.class;
    static final Class<IllegalStateException> STATE = IllegalStateException.class;
    static final Class<NoSuchElementException> ELEMENT = NoSuchElementException.class;

    private int wrong = 0;
    private String about = "";

    void about(String what) {
        about = what;
    }

    void due(String call, long got, long want) {
        if (got != want) {
            fail(call + " answered " + got + ", due is " + want);
        }
    }

    void due(String call, boolean got, boolean want) {
        if (got != want) {
            fail(call + " answered " + got + ", due is " + want);
        }
    }

    void dueAll(String call, int[] got, int... want) {
        if (!Arrays.equals(got, want)) {
            fail(call + " answered " + Arrays.toString(got) + ", due is " + Arrays.toString(want));
        }
    }

    void dueThrow(String call, Class<? extends RuntimeException> want, Runnable run) {
        try {
            run.run();
        } catch (RuntimeException e) {
            if (e.getClass() != want) {
                fail(call + " threw " + e.getClass().getSimpleName() + ", due is " + want.getSimpleName());
            }
            return;
        }
        fail(call + " threw nothing, due is " + want.getSimpleName());
    }

    void fail(String text) {
        wrong++;
        if (wrong <= 40) {
            System.out.println(about + ": " + text);
        }
    }

    int wrong() {
        return wrong;
    }

    void end() {
        System.out.println(wrong == 0 ? "all answers are as due" : wrong + " answers are not as due");
        if (wrong != 0) {
            System.exit(1);
        }
    }
}
