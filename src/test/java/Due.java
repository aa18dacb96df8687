/** Compares answers with those that are due, and tells each that differs. */
final class Due {
    private static int wrong = 0;

    interface Call {
        void make();
    }

    private Due() {
    }

    static void answer(String call, long got, long want) {
        if (got != want) {
            tell(call + " answered " + got + ", due is " + want);
        }
    }

    static void answer(String call, boolean got, boolean want) {
        answer(call, got ? 1 : 0, want ? 1 : 0);
    }

    /** The call throws exactly this class, and every answer of the net is the same as before it. */
    static void thrown(LabelNet net, String call, Class<? extends RuntimeException> want, Call made) {
        int[] before = Look.at(net);
        try {
            made.make();
            tell(call + " threw nothing, due is " + want.getSimpleName());
        } catch (RuntimeException got) {
            if (got.getClass() != want) {
                tell(call + " threw " + got + ", due is " + want.getSimpleName());
            }
        }
        if (!java.util.Arrays.equals(before, Look.at(net))) {
            tell(call + " threw, but changed something");
        }
    }

    static void tell(String text) {
        wrong++;
        System.out.println(text);
    }

    /** The last call of each test. */
    static void end() {
        System.out.println(wrong == 0 ? "all answers are as due" : wrong + " answers are not as due");
        if (wrong != 0) {
            System.exit(1);
        }
    }
}
