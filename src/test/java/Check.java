/**
 * Counts answers that are not as due, and ends a test's program accordingly. It is public for the examples of README.md,
 * which are loaded beside it.
 */
public final class Check {
    static final int NO_SUCH = PrintRegister.NO_SUCH - PrintRegister.SHIFT;
    static final int BAD_VALUE = PrintRegister.BAD_VALUE - PrintRegister.SHIFT;
    static final int BAD_TEXT = PrintRegister.BAD_TEXT - PrintRegister.SHIFT;
    static final int TOO_MANY = PrintRegister.TOO_MANY - PrintRegister.SHIFT;
    static final int NOT_POSSIBLE = PrintRegister.NOT_POSSIBLE - PrintRegister.SHIFT;
    static final int NONE = PrintRegister.NONE - PrintRegister.SHIFT;

    private static int checks = 0;
    private static int wrong = 0;

    private Check() {
    }

    public static void due(String what, long got, long want) {
        checks++;
        if (got != want) {
            wrong++;
            if (wrong <= 50) System.out.println(what + " answered " + got + ", due is " + want);
        }
    }

    public static void dueTrue(String what, boolean holds) {
        due(what, holds ? 1 : 0, 1);
    }

    static boolean anyWrong() {
        return wrong > 0;
    }

    static void end(String test) {
        System.out.println(test + ": " + checks + " checks, " + wrong + " wrong");
        if (wrong > 0 || checks == 0) System.exit(1);
    }

    /** Puts a text on the pad, and tells the length of the pad then. */
    static int putText(PrintRegister x, String text) {
        int length = x.count(4);
        for (int from = 0; from < text.length(); from += 8) {
            length = x.put(packed(text.substring(from, Math.min(text.length(), from + 8))));
        }
        return length;
    }

    /** The number that put() takes for at most 8 characters. */
    static long packed(String characters) {
        long number = 0;
        for (char c : characters.toCharArray()) number = number << 8 | c;
        return number;
    }
}
