import java.lang.reflect.InvocationTargetException;
import java.lang.reflect.Method;
import java.lang.reflect.Modifier;
import java.util.ArrayList;
import java.util.Comparator;
import java.util.List;
import java.util.function.BiFunction;
import java.util.function.Consumer;
import java.util.function.Function;
import java.util.stream.Collectors;

/**
 * What the tests of the promises share. Each method of a test that is not private and takes nothing
 * tests one sentence of the document, which it quotes with says(..); it begins with a new object.
 */
abstract class Sentences {
    static final Class<IndexOutOfBoundsException> INDEX = IndexOutOfBoundsException.class;
    static final Class<IllegalArgumentException> ARGUMENT = IllegalArgumentException.class;
    static final Class<IllegalStateException> STATE = IllegalStateException.class;

    static final String NO_PLATE =
            "Throws `IndexOutOfBoundsException` if there is no such plate";
    static final String THE_FIRST =
            "if several exceptions apply, the first one of the throws clause is thrown";

    private static final int[] NO_PLATES = {-1, 6, Integer.MIN_VALUE, Integer.MAX_VALUE};
    private static final int MOST_UNDONE = 8;

    private final Checks checks = new Checks();
    private String quoted;

    /** The object that the sentence in hand is asked of. */
    SliceShares x;

    // ---- how the sentences are run

    final void run() {
        for (Method sentence : sentences()) {
            quoted = "";
            x = new SliceShares();
            runOne(sentence);
            checks.due(sentence.getName() + " quotes the document", false, quoted.isEmpty());
        }
        checks.end();
    }

    private List<Method> sentences() {
        List<Method> sentences = new ArrayList<>();
        for (Method method : getClass().getDeclaredMethods()) {
            int modifiers = method.getModifiers();
            if (!Modifier.isPrivate(modifiers) && !Modifier.isStatic(modifiers)
                    && method.getParameterCount() == 0) {
                sentences.add(method);
            }
        }
        sentences.sort(Comparator.comparing(Method::getName));
        return sentences;
    }

    private void runOne(Method sentence) {
        try {
            sentence.invoke(this);
        } catch (InvocationTargetException e) {
            checks.due(quoted + " in " + sentence.getName(), "to the end", e.getCause());
        } catch (IllegalAccessException e) {
            throw new IllegalStateException(e);
        }
    }

    // ---- how a sentence is asked

    final void says(int promise, String words) {
        quoted = "promise " + promise + ", \"" + words + "\"";
    }

    final void says(String terms, String words) {
        quoted = terms + ", \"" + words + "\"";
    }

    final void due(Object want, Function<SliceShares, Object> call) {
        checks.due(label(), want, Checks.outcome(() -> call.apply(x)));
    }

    final void holds(int plate, int numerator, int denominator) {
        due(numerator, x -> x.numeratorOf(plate));
        due(denominator, x -> x.denominatorOf(plate));
    }

    /** Of an object of which all is in use the call throws just this, and it changes nothing. */
    final void refused(Class<? extends RuntimeException> type, Function<SliceShares, Object> call) {
        refused(type, x -> { }, call);
    }

    /** The same behind other calls, which are given. */
    final void refused(Class<? extends RuntimeException> type, Consumer<SliceShares> given,
            Function<SliceShares, Object> call) {
        SliceShares refusing = used(given);
        checks.due(label(), "throws." + type.getSimpleName(),
                Checks.outcome(() -> call.apply(refusing)));
        checks.due(label() + ", what shows behind it", all(used(given)), all(refusing));
    }

    /** The call is no change, and nothing else that shows later comes of it. */
    final void leavesAll(Function<SliceShares, Object> call) {
        SliceShares asked = used(x -> { });
        call.apply(asked);
        checks.due(label() + ", what shows behind it", all(used(x -> { })), all(asked));
    }

    final void platesAre0To5(BiFunction<SliceShares, Integer, Object> call) {
        for (int plate : new int[] {0, 5}) {
            Object answer = Checks.outcome(() -> call.apply(used(x -> { }), plate));
            checks.due(label() + " throws for plate " + plate, false,
                    answer.toString().startsWith("throws."));
        }
        for (int plate : NO_PLATES) {
            refused(INDEX, x -> call.apply(x, plate));
        }
    }

    /** Of this fraction the call answers so on each plate, whatever the other ones hold. */
    final void answersOnEachPlate(int numerator, int denominator, Object want,
            BiFunction<SliceShares, Integer, Object> call) {
        for (int plate = 0; plate < 6; plate++) {
            int asked = plate;
            x = withAll(1, 1);
            x.set(asked, numerator, denominator);
            due(want, x -> call.apply(x, asked));
        }
    }

    /** Of this fraction the call is refused on each plate, whatever the other ones hold. */
    final void refusedOnEachPlate(Class<? extends RuntimeException> type, int numerator,
            int denominator, BiFunction<SliceShares, Integer, Object> call) {
        for (int plate = 0; plate < 6; plate++) {
            int asked = plate;
            refused(type, x -> x.set(asked, numerator, denominator), x -> call.apply(x, asked));
        }
    }

    /** Each plate that holds 3 / 4 comes to hold this, and all others keep what they hold. */
    final void changesEachPlate(int numerator, int denominator,
            BiFunction<SliceShares, Integer, Object> call) {
        for (int plate = 0; plate < 6; plate++) {
            x = withAll(1, 7);
            x.set(plate, 3, 4);
            call.apply(x, plate);
            for (int seen = 0; seen < 6; seen++) {
                holds(seen, seen == plate ? numerator : 1, seen == plate ? denominator : 7);
            }
        }
    }

    interface CallOfTwo {
        Object on(SliceShares shares, int plate, int other);
    }

    /** Of each two plates with 3 / 4 and 1 / 6 this comes, and all others keep what they hold. */
    final void changesEachTwo(int[] plateHolds, int[] otherHolds, CallOfTwo call) {
        int[] restHolds = {1, 7};
        for (int pair = 0; pair < 36; pair++) {
            int plate = pair / 6;
            int other = pair % 6;
            if (plate != other) {
                x = withAll(1, 7);
                x.set(plate, 3, 4);
                x.set(other, 1, 6);
                call.on(x, plate, other);
                for (int seen = 0; seen < 6; seen++) {
                    int[] due = seen == plate ? plateHolds : seen == other ? otherHolds : restHolds;
                    holds(seen, due[0], due[1]);
                }
            }
        }
    }

    private static SliceShares withAll(int numerator, int denominator) {
        SliceShares shares = new SliceShares();
        for (int plate = 0; plate < 6; plate++) {
            shares.set(plate, numerator, denominator);
        }
        return shares;
    }

    final void type(String text) {
        append(x, text);
    }

    static void append(SliceShares shares, String text) {
        for (int at = 0; at < text.length(); at += 8) {
            shares.appendText(packed(text.substring(at, Math.min(text.length(), at + 8))));
        }
    }

    static long packed(String text) {
        long packed = 0;
        for (int i = 0; i < text.length(); i++) {
            packed = packed << 8 | text.charAt(i);
        }
        return packed;
    }

    /** The sentence, and the lines of the test that ask for it. */
    private String label() {
        return quoted + " at " + StackWalker.getInstance().walk(frames -> frames
                .filter(frame -> frame.getClassName().equals(getClass().getName()))
                .filter(frame -> !frame.getMethodName().equals("main"))
                .map(frame -> frame.getFileName() + ":" + frame.getLineNumber())
                .collect(Collectors.joining(", ")));
    }

    // ---- an object of which all is in use, and all that shows of an object

    /** Plates 0 and 5 hold neither 0 nor 1 or more, so that each call on them is possible. */
    private static SliceShares used(Consumer<SliceShares> given) {
        SliceShares shares = new SliceShares();
        shares.set(1, 2, 3);
        shares.set(0, 1, 2);
        shares.saveState(0);
        shares.set(2, 3, 1);
        shares.set(3, 1, 1000000);
        shares.set(4, 1000000, 1);
        shares.set(5, 5, 7);
        shares.set(0, 5, 12);
        append(shares, "s4=7/9;c4,2");
        given.accept(shares);
        return shares;
    }

    /** The object is used up by it: the states are undone, the slots loaded, the text run. */
    private static List<Object> all(SliceShares shares) {
        List<Object> seen = new ArrayList<>();
        seen.add(shares.textLength());
        seen.add(shares.textError());
        for (int i = 0; i < MOST_UNDONE; i++) {
            seen.add(shares.undoCount());
            addPlates(seen, shares);
            seen.add(Checks.outcome(shares::undo));
        }
        for (int slot = 0; slot < 2; slot++) {
            int asked = slot;
            seen.add(Checks.outcome(() -> shares.loadState(asked)));
            addPlates(seen, shares);
        }
        seen.add(Checks.outcome(shares::runText));
        addPlates(seen, shares);
        return seen;
    }

    private static void addPlates(List<Object> seen, SliceShares shares) {
        for (int plate = 0; plate < 6; plate++) {
            seen.add(shares.numeratorOf(plate) + " / " + shares.denominatorOf(plate));
        }
    }
}
