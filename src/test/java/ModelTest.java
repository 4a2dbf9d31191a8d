import java.util.Random;

/** Runs of calls, chosen by a fixed seed, answer as the model does. */
public final class ModelTest {
    private static final int RUNS = 1000;
    private static final int MOST_CALLS = 512;
    private static final int CALLS_AT_THE_END = 12;
    private static final int KINDS_OF_CALLS = 41;

    private static final int[] PLATES = {0, 1, 2, 3, 4, 5, 0, 1, 2, 3, 4, 5, 0, 1, 2, -1, 6};
    private static final int[] NUMBERS = {
        0, 1, 2, 3, 5, 7, 12, 97, 100, 999, 1000, 1001, 46368, 75025, 514229, 832040, 999983,
        999999, 1000000};
    private static final int[] WRONG_NUMBERS = {
        -1, 1000001, Integer.MAX_VALUE, Integer.MIN_VALUE, -1000000};
    private static final String SIGNS = "s+-*c0123456789=/,;;x!~";

    private final Checks checks = new Checks();
    private final Random random = new Random(20261119);
    private SliceShares shares;
    private Model model;
    private int run;
    private int calls;
    private int allowedCalls;

    public static void main(String[] args) {
        ModelTest test = new ModelTest();
        for (int run = 1; run <= RUNS; run++) {
            test.oneRun(run);
        }
        test.checks.end();
    }

    private void oneRun(int number) {
        shares = new SliceShares();
        model = new Model();
        run = number;
        calls = 0;
        allowedCalls = MOST_CALLS - CALLS_AT_THE_END;
        while (calls < allowedCalls) {
            if (random.nextInt(3) == 0) {
                askSomeChange();
            } else {
                askOne(random.nextInt(KINDS_OF_CALLS));
            }
        }
        allowedCalls = MOST_CALLS;
        for (int plate = 0; plate < 6; plate++) {
            askPlate(plate);
        }
    }

    private void askPlate(int plate) {
        compared("numeratorOf(" + plate + ")",
                () -> shares.numeratorOf(plate), () -> model.numeratorOf(plate));
        compared("denominatorOf(" + plate + ")",
                () -> shares.denominatorOf(plate), () -> model.denominatorOf(plate));
    }

    /** Asks neither of them beyond the calls that an object is used for. */
    private void compared(String call, Checks.Call got, Checks.Call want) {
        if (calls < allowedCalls) {
            calls++;
            checks.due("run " + run + ", call " + calls + ": " + call, Checks.outcome(want),
                    Checks.outcome(got));
        }
    }

    private int pick(int[] numbers) {
        return numbers[random.nextInt(numbers.length)];
    }

    private int number() {
        switch (random.nextInt(12)) {
            case 0:
                return pick(WRONG_NUMBERS);
            case 1:
            case 2:
                return random.nextInt(1000001);
            case 3:
            case 4:
                return pick(NUMBERS);
            default:
                return random.nextInt(60);
        }
    }

    private int greatest() {
        switch (random.nextInt(8)) {
            case 0:
                return pick(new int[] {0, -1, 1001, Integer.MIN_VALUE, Integer.MAX_VALUE});
            case 1:
                return pick(new int[] {1, 1000, 999});
            case 2:
                return 1 + random.nextInt(1000);
            default:
                return 1 + random.nextInt(20);
        }
    }

    private int index(int bound) {
        return random.nextInt(20) == 0
                ? pick(new int[] {-1, bound, Integer.MIN_VALUE, Integer.MAX_VALUE})
                : random.nextInt(bound);
    }

    private void askSomeChange() {
        int plate = pick(PLATES);
        if (random.nextInt(3) == 0) {
            askOne(random.nextInt(8));
            return;
        }
        int numerator = number();
        int denominator = number();
        compared("set(" + plate + ", " + numerator + ", " + denominator + ")",
                () -> shares.set(plate, numerator, denominator),
                () -> model.set(plate, numerator, denominator));
    }

    private void askOne(int which) {
        if (which < 16) {
            askChangeOrPlates(which);
        } else if (which < 28) {
            askContinuedFractionOrTree(which);
        } else {
            askTextOrUndo(which);
        }
    }

    private void askChangeOrPlates(int which) {
        int p = pick(PLATES);
        int q = pick(PLATES);
        int guests = random.nextInt(2) == 0 ? 1 + random.nextInt(100)
                : pick(new int[] {0, -1, 1, 2, 3, 100, 101, Integer.MAX_VALUE});
        int most = greatest();
        String pair = "(" + p + ", " + q + ")";
        String one = "(" + p + ")";
        switch (which) {
            case 0 -> compared("add" + pair, () -> shares.add(p, q), () -> model.add(p, q));
            case 1 -> compared("takeAway" + pair,
                    () -> shares.takeAway(p, q), () -> model.takeAway(p, q));
            case 2 -> compared("multiply" + pair,
                    () -> shares.multiply(p, q), () -> model.multiply(p, q));
            case 3 -> compared("copyTo" + pair,
                    () -> shares.copyTo(p, q), () -> model.copyTo(p, q));
            case 4 -> compared("invert" + one, () -> shares.invert(p), () -> model.invert(p));
            case 5 -> compared("share(" + p + ", " + guests + ")",
                    () -> shares.share(p, guests), () -> model.share(p, guests));
            case 6 -> compared("roundTo(" + p + ", " + most + ")",
                    () -> shares.roundTo(p, most), () -> model.roundTo(p, most));
            case 7 -> compared("add" + pair, () -> shares.add(p, q), () -> model.add(p, q));
            case 8, 9 -> compared("numeratorOf" + one,
                    () -> shares.numeratorOf(p), () -> model.numeratorOf(p));
            case 10 -> compared("denominatorOf" + one,
                    () -> shares.denominatorOf(p), () -> model.denominatorOf(p));
            case 11, 12 -> compared("compare" + pair,
                    () -> shares.compare(p, q), () -> model.compare(p, q));
            case 13 -> compared("plateByAmount" + one,
                    () -> shares.plateByAmount(p), () -> model.plateByAmount(p));
            case 14 -> compared("commonParts()",
                    () -> shares.commonParts(), () -> model.commonParts());
            default -> compared("differentFractions()",
                    () -> shares.differentFractions(), () -> model.differentFractions());
        }
    }

    private void askContinuedFractionOrTree(int which) {
        int p = pick(PLATES);
        int t = index(random.nextInt(3) == 0 ? 20 : 4);
        int u = index(4);
        int most = greatest();
        String one = "(" + p + ")";
        String term = "(" + p + ", " + t + ")";
        String limit = "(" + p + ", " + most + ")";
        switch (which) {
            case 16 -> compared("termCount" + one,
                    () -> shares.termCount(p), () -> model.termCount(p));
            case 17 -> compared("termAt" + term,
                    () -> shares.termAt(p, t), () -> model.termAt(p, t));
            case 18 -> compared("beginningNumerator" + term,
                    () -> shares.beginningNumerator(p, t), () -> model.beginningNumerator(p, t));
            case 19 -> compared("beginningDenominator" + term,
                    () -> shares.beginningDenominator(p, t),
                    () -> model.beginningDenominator(p, t));
            case 20 -> compared("nearestDenominator" + limit,
                    () -> shares.nearestDenominator(p, most),
                    () -> model.nearestDenominator(p, most));
            case 21 -> compared("nearestByTrying" + limit,
                    () -> shares.nearestByTrying(p, most),
                    () -> model.nearestDenominator(p, most));
            case 22 -> compared("nearestNumerator" + limit,
                    () -> shares.nearestNumerator(p, most),
                    () -> model.nearestNumerator(p, most));
            case 23 -> compared("unitCount" + one,
                    () -> shares.unitCount(p), () -> model.unitCount(p));
            case 24 -> compared("unitAt(" + p + ", " + u + ")",
                    () -> shares.unitAt(p, u), () -> model.unitAt(p, u));
            case 25 -> compared("waySteps" + one,
                    () -> shares.waySteps(p), () -> model.waySteps(p));
            case 26 -> compared("wayTurns" + one,
                    () -> shares.wayTurns(p), () -> model.wayTurns(p));
            default -> compared("beginsRight" + one,
                    () -> shares.beginsRight(p), () -> model.beginsRight(p));
        }
    }

    private void askTextOrUndo(int which) {
        int slot = random.nextInt(8) == 0 ? pick(new int[] {-1, 2, Integer.MIN_VALUE})
                : random.nextInt(2);
        switch (which) {
            case 28, 29, 30 -> appendSome(commands());
            case 31 -> append(wrongCharacters());
            case 32 -> compared("clearText()", () -> shares.clearText(), () -> model.clearText());
            case 33 -> compared("textLength()",
                    () -> shares.textLength(), () -> model.textLength());
            case 34 -> compared("textError()", () -> shares.textError(), () -> model.textError());
            case 35, 36 -> runAndClear();
            case 37 -> compared("undo()", () -> shares.undo(), () -> model.undo());
            case 38 -> compared("undoCount()", () -> shares.undoCount(), () -> model.undoCount());
            case 39 -> compared("saveState(" + slot + ")",
                    () -> shares.saveState(slot), () -> model.saveState(slot));
            default -> compared("loadState(" + slot + ")",
                    () -> shares.loadState(slot), () -> model.loadState(slot));
        }
    }

    private void runAndClear() {
        compared("textError()", () -> shares.textError(), () -> model.textError());
        compared("runText()", () -> shares.runText(), () -> model.runText());
        if (random.nextInt(2) == 0) {
            compared("clearText()", () -> shares.clearText(), () -> model.clearText());
        }
    }

    private String commands() {
        StringBuilder text = new StringBuilder(model.textLength() == 0 ? "" : ";");
        int count = 1 + random.nextInt(5);
        for (int i = 0; i < count; i++) {
            text.append(i == 0 ? "" : ";").append(command());
        }
        if (random.nextInt(3) == 0) {
            text.setCharAt(random.nextInt(text.length()),
                    SIGNS.charAt(random.nextInt(SIGNS.length())));
        }
        if (random.nextInt(6) == 0) {
            text.setLength(1 + random.nextInt(text.length()));
        }
        return text.toString();
    }

    private String command() {
        int plate = random.nextInt(random.nextInt(10) == 0 ? 10 : 6);
        int other = random.nextInt(random.nextInt(10) == 0 ? 10 : 6);
        if (random.nextInt(2) == 0) {
            return "s" + plate + "=" + textNumber() + "/" + textNumber();
        }
        return "" + "+-*c".charAt(random.nextInt(4)) + plate + "," + other;
    }

    private int textNumber() {
        switch (random.nextInt(6)) {
            case 0:
                return random.nextInt(20000);
            case 1:
                return pick(new int[] {0, 9, 10, 99, 100, 999, 1000, 9999, 10000});
            default:
                return random.nextInt(30);
        }
    }

    private void appendSome(String text) {
        int at = 0;
        while (at < text.length()) {
            int end = Math.min(text.length(), at + 1 + random.nextInt(8));
            append(Sentences.packed(text.substring(at, end)));
            at = end;
        }
    }

    private long wrongCharacters() {
        switch (random.nextInt(5)) {
            case 0:
                return random.nextLong();
            case 1:
                return Sentences.packed("s0") << 8;
            case 2:
                return (long) random.nextInt(256) << 8 * random.nextInt(8);
            case 3:
                return Sentences.packed("c0,1" + (char) (30 + random.nextInt(100)));
            default:
                return Sentences.packed("s") << 16 | Sentences.packed("+");
        }
    }

    private void append(long characters) {
        compared("appendText(" + characters + ")",
                () -> shares.appendText(characters), () -> model.appendText(characters));
    }
}
