/** The 512 calls that an object is used for: all of them answer as promised, the last one too. */
public final class ManyCallsTest extends Sentences {
    private static final String AT_MOST_512 =
            "An object is used for at most 512 calls after it has been made";

    public static void main(String[] args) {
        new ManyCallsTest().run();
    }

    void changes() {
        says("What it is", AT_MOST_512);
        for (int call = 1; call <= 505; call++) {
            x.set(0, call, 1000);
        }
        for (int left = 5; left >= 0; left--) {
            int want = left;
            due(want, x -> x.undo());
        }
        due(499, x -> x.numeratorOf(0));
    }

    void longTexts() {
        says("What it is", AT_MOST_512);
        for (int time = 1; time <= 46; time++) {
            type("s0=1/2;s1=1/3;s2=1/4;" + "+0,1;".repeat(2) + "c0,5;".repeat(9) + "c0,4");
            due(15, x -> x.runText());
        }
        due(6, x -> x.undoCount());
        holds(4, 7, 6);
        due(5, x -> x.undo());
        due(4, x -> x.undo());
        due(1, x -> x.appendText('s'));
    }

    void appendedAndClearedTexts() {
        says("What it is", AT_MOST_512);
        for (int time = 1; time <= 256; time++) {
            due(8, x -> x.appendText(packed("s0=1/2;s")));
            due(8, x -> x.clearText());
        }
    }

    void savedAndLoadedStates() {
        says("What it is", AT_MOST_512);
        x.set(0, 1, 2);
        for (int time = 1; time <= 255; time++) {
            int slot = time % 2;
            due(1, x -> x.saveState(slot));
            due(1, x -> x.loadState(slot));
        }
        due(6, x -> x.undoCount());
    }

    void refusedCalls() {
        says("What it is", AT_MOST_512);
        for (int call = 1; call <= 511; call++) {
            due("throws.IllegalStateException", x -> x.undo());
        }
        due(2, x -> x.set(0, 1, 2));
    }

    void nearestFractions() {
        says("What it is", AT_MOST_512);
        x.set(0, 999999, 1000000);
        for (int call = 2; call <= 512; call++) {
            due(1, x -> x.nearestByTrying(0, 1000));
        }
    }
}
