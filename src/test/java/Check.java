import java.util.function.LongSupplier;

/** Compares answers with those that are due, counts them, and tells how a test ended. */
final class Check {
    private static int wrong = 0;
    private static int all = 0;

    private Check() {
    }

    static void due(String call, long got, long want) {
        all++;
        if (got != want) {
            wrong++;
            if (wrong <= 20) {
                System.out.println("  " + call + " answered " + got + ", due is " + want);
            }
        }
    }

    static void that(String what, boolean isSo) {
        due(what, isSo ? 1 : 0, 1);
    }

    /** The call answers the number, counts it once, and changes nothing else. */
    static void refused(Roof x, int number, String call, LongSupplier made) {
        refusedAs(x, number, number, call, made);
    }

    /** The same, where the answer that tells the number is another. */
    static void refusedAs(Roof x, int number, int answer, String call, LongSupplier made) {
        String before = Ways.picture(x);
        int[] counts = new int[5];
        for (int i = 0; i < counts.length; i++) {
            counts[i] = x.status(12 + i);
        }
        due(call, made.getAsLong(), answer);
        that(call + " changed nothing", before.equals(Ways.picture(x)));
        for (int i = 0; i < counts.length; i++) {
            int more = -2 - i == number ? 1 : 0;
            due(call + ", how many refusals " + (-2 - i), x.status(12 + i), counts[i] + more);
        }
    }

    /** How many answers were looked at. */
    static int count() {
        return all;
    }

    /** The last call of a test's main method. */
    static void end() {
        System.out.println("  " + all + " answers, " + wrong + " of them wrong");
        System.exit(wrong == 0 && all > 0 ? 0 : 1);
    }
}
