/** Counts the answers that are not the ones that are due, and prints each of them. */
final class Checks {
    interface Call {
        Object answer();
    }

    private int wrong = 0;
    private int asked = 0;

    void due(String label, Object want, Object got) {
        asked++;
        if (!want.equals(got)) {
            wrong++;
            System.out.println(label + ": answered " + got + ", due is " + want);
        }
    }

    /** What the call answers; "throws." and the exception's name if it throws one. */
    static Object outcome(Call call) {
        try {
            return call.answer();
        } catch (RuntimeException e) {
            return "throws." + e.getClass().getSimpleName();
        }
    }

    /** Prints what came of it; ends the program with 1 if an answer was wrong. */
    void end() {
        System.out.println(asked + " answers, " + wrong + " of them not as due");
        if (wrong != 0) {
            System.exit(1);
        }
    }
}
