import java.util.Arrays;

/** Counts the answers that are not the ones that are due, and prints each of them. */
final class Checks {
    interface Call {
        Object answer();
    }

    private int wrong = 0;
    private int asked = 0;

    void due(String label, Object want, Object got) {
        asked++;
        if (!want.equals(got)) {
            wrong++;
            System.out.println(label + ": answered " + got + ", due is " + want);
        }
    }

    void answers(String label, Object want, Call call) {
        due(label, want, outcome(call));
    }

    /** The call throws exactly this exception, and the object answers as before. */
    void refuses(String label, Class<? extends RuntimeException> type, SliceShares shares,
            Call call) {
        String before = looks(shares);
        due(label, "throws." + type.getSimpleName(), outcome(call));
        due(label + ", what the object looks like behind it", before, looks(shares));
    }

    static Object outcome(Call call) {
        try {
            return call.answer();
        } catch (RuntimeException e) {
            return "throws." + e.getClass().getSimpleName();
        }
    }

    /** All that can be seen of an object without a change of it. */
    static String looks(SliceShares shares) {
        int[] seen = new int[15];
        for (int plate = 0; plate < 6; plate++) {
            seen[2 * plate] = shares.numeratorOf(plate);
            seen[2 * plate + 1] = shares.denominatorOf(plate);
        }
        seen[12] = shares.undoCount();
        seen[13] = shares.textLength();
        seen[14] = shares.textError();
        return Arrays.toString(seen);
    }

    /** Prints what came of it; ends the program with 1 if an answer was wrong. */
    void end() {
        System.out.println(asked + " answers, " + wrong + " of them not as due");
        if (wrong != 0) {
            System.exit(1);
        }
    }
}
