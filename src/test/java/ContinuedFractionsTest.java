import java.util.function.BiFunction;

/** Promises 16 to 22: continued fractions and nearest fractions. */
public final class ContinuedFractionsTest extends Sentences {
    private static final String NO_TERM =
            "Throws `IndexOutOfBoundsException` if there is no such plate or term";
    private static final String GREATEST = "`greatest`: 1 to 1000";
    private static final int[] NO_GREATEST = {0, 1001, -1, Integer.MIN_VALUE, Integer.MAX_VALUE};

    public static void main(String[] args) {
        new ContinuedFractionsTest().run();
    }

    // ---- promises 16 and 17

    private void terms(int numerator, int denominator, int... terms) {
        x.set(0, numerator, denominator);
        due(terms.length, x -> x.termCount(0));
        for (int i = 0; i < terms.length; i++) {
            int term = i;
            due(terms[i], x -> x.termAt(0, term));
        }
        refused(INDEX, x -> x.set(0, numerator, denominator), x -> x.termAt(0, terms.length));
    }

    void termsOfWholePies() {
        says("Terms", "then, if the remainder r is not 0, the terms of d / r");
        terms(0, 1, 0);
        terms(1, 1, 1);
        terms(7, 1, 7);
        terms(1000000, 1, 1000000);
    }

    void firstTermIsRoundedDown() {
        says("Terms", "n divided by d, rounded down");
        terms(1, 2, 0, 2);
        terms(3, 2, 1, 2);
        terms(1, 1000000, 0, 1000000);
        terms(999999, 1000000, 0, 1, 999999);
        terms(1000000, 999999, 1, 999999);
        terms(999999, 2, 499999, 2);
    }

    void termsOfRemainders() {
        says("Terms", "then, if the remainder r is not 0, the terms of d / r");
        terms(355, 113, 3, 7, 16);
        terms(113, 355, 0, 3, 7, 16);
        terms(710, 226, 3, 7, 16);
    }

    void termCountUpToTheMost() {
        says(16, "Returns how many terms the continued fraction of a plate has.");
        x.set(0, 514229, 832040);
        due(29, x -> x.termCount(0));
        x.set(0, 832040, 514229);
        due(28, x -> x.termCount(0));
    }

    void termCountOfEachPlate() {
        says(16, "Returns how many terms the continued fraction of a plate has.");
        answersOnEachPlate(355, 113, 3, (x, plate) -> x.termCount(plate));
    }

    void termCountKnowsPlates0To5() {
        says(16, NO_PLATE);
        platesAre0To5((x, plate) -> x.termCount(plate));
    }

    void termAtTheLastOfTheMost() {
        says(17, "Returns a term of the continued fraction of a plate.");
        x.set(0, 514229, 832040);
        due(0, x -> x.termAt(0, 0));
        due(1, x -> x.termAt(0, 1));
        due(1, x -> x.termAt(0, 27));
        due(2, x -> x.termAt(0, 28));
    }

    void termAtOfEachPlate() {
        says(17, "Returns a term of the continued fraction of a plate.");
        answersOnEachPlate(355, 113, 3, (x, plate) -> x.termAt(plate, 0));
        answersOnEachPlate(355, 113, 16, (x, plate) -> x.termAt(plate, 2));
        refusedOnEachPlate(INDEX, 355, 113, (x, plate) -> x.termAt(plate, 3));
    }

    /** Of the terms of a plate, of which there are so many, none is told beyond the last one. */
    private void onlyTerms(int count, int numerator, int denominator,
            BiFunction<SliceShares, Integer, Object> call) {
        int[] beyond = {-1, count, count + 1, 40, 64, Integer.MIN_VALUE, Integer.MAX_VALUE};
        for (int term : beyond) {
            refused(INDEX, x -> x.set(0, numerator, denominator), x -> call.apply(x, term));
        }
    }

    void termAtBeyondTheLast() {
        says(17, NO_TERM);
        onlyTerms(1, 0, 1, (x, term) -> x.termAt(0, term));
        onlyTerms(3, 355, 113, (x, term) -> x.termAt(0, term));
        onlyTerms(29, 514229, 832040, (x, term) -> x.termAt(0, term));
    }

    void termAtKnowsPlates0To5() {
        says(17, NO_TERM);
        platesAre0To5((x, plate) -> x.termAt(plate, 0));
        refused(INDEX, x -> x.termAt(6, -1));
    }

    // ---- promises 18 and 19

    private void beginning(int term, int numerator, int denominator) {
        due(numerator, x -> x.beginningNumerator(0, term));
        due(denominator, x -> x.beginningDenominator(0, term));
    }

    void beginningOfOneTerm() {
        says("Terms", "with one term that term / 1");
        beginning(0, 0, 1);
        x.set(0, 355, 113);
        beginning(0, 3, 1);
        x.set(0, 113, 355);
        beginning(0, 0, 1);
        x.set(0, 1000000, 1);
        beginning(0, 1000000, 1);
    }

    void beginningOfMoreTerms() {
        says("Terms", "otherwise the first term and 1 divided by what the others stand for");
        x.set(0, 355, 113);
        beginning(1, 22, 7);
        x.set(0, 113, 355);
        beginning(1, 1, 3);
        beginning(2, 7, 22);
    }

    void beginningOfAllTerms() {
        says(18, "up to a term, that included");
        x.set(0, 355, 113);
        beginning(2, 355, 113);
        x.set(0, 113, 355);
        beginning(3, 113, 355);
        x.set(0, 1, 1000000);
        beginning(1, 1, 1000000);
        x.set(0, 1000000, 999999);
        beginning(1, 1000000, 999999);
        x.set(0, 999999, 1000000);
        beginning(1, 1, 1);
        beginning(2, 999999, 1000000);
        x.set(0, 514229, 832040);
        beginning(27, 196418, 317811);
        beginning(28, 514229, 832040);
    }

    void beginningOfEachPlate() {
        says(18, "of what the beginning of a continued fraction up to a term");
        answersOnEachPlate(355, 113, 3, (x, plate) -> x.beginningNumerator(plate, 0));
        answersOnEachPlate(355, 113, 22, (x, plate) -> x.beginningNumerator(plate, 1));
        refusedOnEachPlate(INDEX, 355, 113, (x, plate) -> x.beginningNumerator(plate, 3));
        says(19, "of what the beginning of a continued fraction up to a term");
        answersOnEachPlate(355, 113, 7, (x, plate) -> x.beginningDenominator(plate, 1));
        answersOnEachPlate(355, 113, 113, (x, plate) -> x.beginningDenominator(plate, 2));
        refusedOnEachPlate(INDEX, 355, 113, (x, plate) -> x.beginningDenominator(plate, 3));
    }

    void beginningNumeratorBeyondTheLastTerm() {
        says(18, NO_TERM);
        onlyTerms(1, 0, 1, (x, term) -> x.beginningNumerator(0, term));
        onlyTerms(3, 355, 113, (x, term) -> x.beginningNumerator(0, term));
        onlyTerms(29, 514229, 832040, (x, term) -> x.beginningNumerator(0, term));
    }

    void beginningNumeratorKnowsPlates0To5() {
        says(18, NO_TERM);
        platesAre0To5((x, plate) -> x.beginningNumerator(plate, 0));
        refused(INDEX, x -> x.beginningNumerator(6, -1));
    }

    void beginningDenominatorBeyondTheLastTerm() {
        says(19, NO_TERM);
        onlyTerms(1, 0, 1, (x, term) -> x.beginningDenominator(0, term));
        onlyTerms(3, 355, 113, (x, term) -> x.beginningDenominator(0, term));
        onlyTerms(29, 514229, 832040, (x, term) -> x.beginningDenominator(0, term));
    }

    void beginningDenominatorKnowsPlates0To5() {
        says(19, NO_TERM);
        platesAre0To5((x, plate) -> x.beginningDenominator(plate, 0));
        refused(INDEX, x -> x.beginningDenominator(6, -1));
    }

    // ---- promises 20 to 22

    private void nearest(int greatest, int numerator, int denominator) {
        due(denominator, x -> x.nearestDenominator(0, greatest));
        due(denominator, x -> x.nearestByTrying(0, greatest));
        due(numerator, x -> x.nearestNumerator(0, greatest));
    }

    void nearestIsTheFractionItself() {
        says("Terms", "the fraction n / d with d at most m");
        nearest(1, 0, 1);
        nearest(1000, 0, 1);
        x.set(0, 355, 113);
        nearest(113, 355, 113);
        nearest(114, 355, 113);
        nearest(1000, 355, 113);
        x.set(0, 1000000, 1);
        nearest(1, 1000000, 1);
        nearest(1000, 1000000, 1);
        x.set(0, 999, 1000);
        nearest(1000, 999, 1000);
        x.set(0, 999999, 1000);
        nearest(1000, 999999, 1000);
    }

    void nearestIsNotTheFractionItself() {
        says("Terms", "the fraction n / d with d at most m");
        x.set(0, 355, 113);
        nearest(112, 333, 106);
        nearest(106, 333, 106);
        nearest(105, 311, 99);
        nearest(7, 22, 7);
        nearest(6, 19, 6);
        nearest(1, 3, 1);
        x.set(0, 999, 1000);
        nearest(999, 998, 999);
        x.set(0, 1000, 1001);
        nearest(1000, 999, 1000);
    }

    void nearestOnEitherSide() {
        says("Terms", "for which the distance from x, without regard to its sign, is the least");
        x.set(0, 2, 3);
        nearest(1, 1, 1);
        nearest(2, 1, 2);
        x.set(0, 1, 3);
        nearest(1, 0, 1);
        nearest(2, 1, 2);
        x.set(0, 5, 12);
        nearest(5, 2, 5);
        nearest(7, 3, 7);
        x.set(0, 1000000, 3);
        nearest(1, 333333, 1);
        nearest(2, 666667, 2);
    }

    void nearestOfSeveralHasTheLeastDenominator() {
        says("Terms", "of several the one with the least d");
        x.set(0, 5, 12);
        nearest(3, 1, 2);
        x.set(0, 7, 12);
        nearest(3, 1, 2);
        x.set(0, 1, 2000);
        nearest(1000, 0, 1);
        x.set(0, 1999, 2000);
        nearest(1000, 1, 1);
        x.set(0, 75259, 23956);
        nearest(113, 333, 106);
    }

    void nearestJustBesideSeveral() {
        says("Terms", "for which the distance from x, without regard to its sign, is the least");
        x.set(0, 1, 1999);
        nearest(1000, 1, 1000);
        x.set(0, 1, 2001);
        nearest(1000, 0, 1);
        x.set(0, 1998, 1999);
        nearest(1000, 999, 1000);
        x.set(0, 2000, 2001);
        nearest(1000, 1, 1);
    }

    void nearestOfSeveralIsThenTheLesser() {
        says("Terms", "and then the lesser one");
        x.set(0, 1, 2);
        nearest(1, 0, 1);
        x.set(0, 3, 2);
        nearest(1, 1, 1);
        x.set(0, 5, 2);
        nearest(1, 2, 1);
        x.set(0, 999999, 2);
        nearest(1, 499999, 1);
    }

    void nearestOfTheGreatestAndTheLeast() {
        says(22, "Returns the numerator of the nearest fraction to a plate.");
        x.set(0, 1000000, 999999);
        nearest(1, 1, 1);
        nearest(1000, 1, 1);
        x.set(0, 999999, 1000000);
        nearest(1000, 1, 1);
        x.set(0, 1, 1000000);
        nearest(1000, 0, 1);
        x.set(0, 514229, 832040);
        nearest(1, 1, 1);
        nearest(987, 610, 987);
        nearest(986, 377, 610);
    }

    void nearestOfEachPlate() {
        says(20, "Returns the denominator of the nearest fraction to a plate");
        answersOnEachPlate(355, 113, 7, (x, plate) -> x.nearestDenominator(plate, 8));
        says(21, "Returns the same denominator, found by trying all denominators.");
        answersOnEachPlate(355, 113, 7, (x, plate) -> x.nearestByTrying(plate, 8));
        says(22, "Returns the numerator of the nearest fraction to a plate.");
        answersOnEachPlate(355, 113, 22, (x, plate) -> x.nearestNumerator(plate, 8));
    }

    void nearestDenominatorGreatest1To1000() {
        says(20, GREATEST);
        x.set(0, 1, 2);
        due(1, x -> x.nearestDenominator(0, 1));
        due(2, x -> x.nearestDenominator(0, 1000));
        for (int beyond : NO_GREATEST) {
            refused(ARGUMENT, x -> x.nearestDenominator(0, beyond));
        }
    }

    void nearestDenominatorKnowsPlates0To5() {
        says(20, NO_PLATE);
        platesAre0To5((x, plate) -> x.nearestDenominator(plate, 10));
    }

    void nearestDenominatorThrowsTheFirst() {
        says(20, THE_FIRST);
        refused(INDEX, x -> x.nearestDenominator(6, 0));
        refused(INDEX, x -> x.nearestDenominator(-1, 1001));
    }

    void nearestByTryingGreatest1To1000() {
        says(21, GREATEST);
        x.set(0, 1, 2);
        due(1, x -> x.nearestByTrying(0, 1));
        due(2, x -> x.nearestByTrying(0, 1000));
        for (int beyond : NO_GREATEST) {
            refused(ARGUMENT, x -> x.nearestByTrying(0, beyond));
        }
    }

    void nearestByTryingKnowsPlates0To5() {
        says(21, NO_PLATE);
        platesAre0To5((x, plate) -> x.nearestByTrying(plate, 10));
    }

    void nearestByTryingThrowsTheFirst() {
        says(21, THE_FIRST);
        refused(INDEX, x -> x.nearestByTrying(6, 0));
        refused(INDEX, x -> x.nearestByTrying(-1, 1001));
    }

    void nearestNumeratorGreatest1To1000() {
        says(22, GREATEST);
        x.set(0, 1, 2);
        due(0, x -> x.nearestNumerator(0, 1));
        due(1, x -> x.nearestNumerator(0, 1000));
        for (int beyond : NO_GREATEST) {
            refused(ARGUMENT, x -> x.nearestNumerator(0, beyond));
        }
    }

    void nearestNumeratorKnowsPlates0To5() {
        says(22, NO_PLATE);
        platesAre0To5((x, plate) -> x.nearestNumerator(plate, 10));
    }

    void nearestNumeratorThrowsTheFirst() {
        says(22, THE_FIRST);
        refused(INDEX, x -> x.nearestNumerator(6, 0));
        refused(INDEX, x -> x.nearestNumerator(-1, 1001));
    }

    /** All small fractions and greatest denominators, where many lie as near on both sides. */
    void nearestOfAllSmallFractions() {
        says(21, "Returns the same denominator, found by trying all denominators.");
        for (int denominator = 1; denominator <= 40; denominator++) {
            for (int numerator = 0; numerator <= 2 * denominator; numerator++) {
                x = new SliceShares();
                Model model = new Model();
                x.set(0, numerator, denominator);
                model.set(0, numerator, denominator);
                for (int greatest = 1; greatest <= 41; greatest++) {
                    nearest(greatest, model.nearestNumerator(0, greatest),
                            model.nearestDenominator(0, greatest));
                }
            }
        }
    }
}
