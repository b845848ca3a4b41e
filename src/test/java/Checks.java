import java.util.Arrays;

/** Counts checks and prints those that fail. */
final class Checks {
    /** Something that may throw. */
    interface Call {
        void run();
    }

    private int passed;
    private int failed;
    private String topic = "";

    void topic(String name) {
        topic = name;
    }

    int passed() {
        return passed;
    }

    int failed() {
        return failed;
    }

    void isTrue(String what, boolean good) {
        if (good) {
            passed++;
        } else {
            failed++;
            System.out.println(topic + ": " + what + " does not hold");
        }
    }

    void same(String what, long want, long got) {
        if (want == got) {
            passed++;
        } else {
            failed++;
            System.out.println(topic + ": " + what + " answered " + got + ", due is " + want);
        }
    }

    void row(String what, int[] want, int... got) {
        if (Arrays.equals(want, got)) {
            passed++;
        } else {
            failed++;
            System.out.println(topic + ": " + what + " answered " + Arrays.toString(got)
                    + ", due is " + Arrays.toString(want));
        }
    }

    /** The call must throw exactly this and leave the object as it was. */
    void refuses(String what, CreditBeams x, Class<? extends RuntimeException> want, Call call) {
        String before = Looks.all(x);
        Class<?> got = null;
        try {
            call.run();
        } catch (RuntimeException e) {
            got = e.getClass();
        }
        isTrue(what + " throwing " + want.getSimpleName() + " (it threw " + got + ")", got == want);
        isTrue(what + " changing nothing", before.equals(Looks.all(x)));
    }
}
