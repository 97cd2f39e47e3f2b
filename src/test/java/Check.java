import java.util.function.LongSupplier;

/** Counts the answers that are not as due, for the tests of the project. */
final class Check {
    static final long NONE = MomentTexts.NONE;
    /** What asked() answers in place of a number if the call throws. */
    static final long ILLEGAL = Long.MIN_VALUE + 1;
    static final long UNSUPPORTED = Long.MIN_VALUE + 2;
    static final long OUTSIDE = Long.MIN_VALUE + 3;

    private static final int MOST_TOLD = 40;
    private static int wrong = 0;
    private static int asked = 0;

    private Check() {
    }

    /** A call's answer, or which exception it threw; any other exception ends the test. */
    static long answer(LongSupplier call) {
        try {
            return call.getAsLong();
        } catch (RuntimeException e) {
            if (e.getClass() == IllegalArgumentException.class) {
                return ILLEGAL;
            }
            if (e.getClass() == UnsupportedOperationException.class) {
                return UNSUPPORTED;
            }
            if (e.getClass() == IndexOutOfBoundsException.class) {
                return OUTSIDE;
            }
            throw e;
        }
    }

    static void due(String what, long want, LongSupplier call) {
        same(what, want, answer(call));
    }

    static void illegal(String what, LongSupplier call) {
        due(what, ILLEGAL, call);
    }

    static void same(String what, long want, long got) {
        asked++;
        if (got != want) {
            tell(what + " answered " + name(got) + ", due is " + name(want));
        }
    }

    static void same(String what, String want, String got) {
        asked++;
        if (!got.equals(want)) {
            tell(what + " answered " + got + ", due is " + want);
        }
    }

    private static void tell(String line) {
        wrong++;
        if (wrong <= MOST_TOLD) {
            System.out.println(line);
        }
    }

    private static String name(long value) {
        if (value == NONE) {
            return "NONE";
        }
        if (value == ILLEGAL) {
            return "IllegalArgumentException";
        }
        if (value == UNSUPPORTED) {
            return "UnsupportedOperationException";
        }
        return value == OUTSIDE ? "IndexOutOfBoundsException" : Long.toString(value);
    }

    /** Ends the test: exit code 1 if an answer was not as due. */
    static void end() {
        System.out.println(asked + " answers, " + wrong + " not as due");
        if (wrong != 0) {
            System.exit(1);
        }
    }

    /** Puts a text in place of the TEXT; its characters are bytes. */
    static void text(MomentTexts x, String text) {
        x.clear();
        for (int i = 0; i < text.length(); i += 8) {
            long bytes = 0;
            int n = Math.min(8, text.length() - i);
            for (int k = 0; k < n; k++) {
                bytes |= (long) (text.charAt(i + k) & 255) << (8 * k);
            }
            x.type(bytes, n);
        }
    }

    /** OUT, whole. */
    static String out(MomentTexts x, int length) {
        StringBuilder made = new StringBuilder();
        for (int i = 0; i < length; i++) {
            made.append((char) x.out(i));
        }
        same("the byte behind OUT", OUTSIDE, answer(() -> x.out(length)));
        return made.toString();
    }
}
