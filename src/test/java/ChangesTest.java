/** Promises 1 to 9: a new object and the changes of its plates. */
public final class ChangesTest extends Sentences {
    private static final String NO_FRACTION_BEYOND =
            "No numerator or denominator of a plate may be greater than 1000000";
    private static final String LOWEST_TERMS =
            "told by its numerator and its denominator, which is at least 1, in lowest terms";
    private static final String OTHER_KEEPS_IT = "the other one keeps it";

    public static void main(String[] args) {
        new ChangesTest().run();
    }

    /** Puts fractions onto plates 0 and 1. */
    private static void put(SliceShares shares, int n, int d, int otherN, int otherD) {
        shares.set(0, n, d);
        shares.set(1, otherN, otherD);
    }

    // ---- promise 1

    void newPlatesAreEmpty() {
        says(1, "Creates empty plates.");
        for (int plate = 0; plate < 6; plate++) {
            holds(plate, 0, 1);
        }
    }

    void newTextIsEmpty() {
        says("Terms", "at most 80 characters long and empty at first");
        due(0, x -> x.textLength());
    }

    void newObjectSharesNothing() {
        says(1, "Creates empty plates.");
        SliceShares other = new SliceShares();
        other.set(0, 1, 2);
        other.saveState(0);
        append(other, "s1=1/3");
        holds(0, 0, 1);
        due(0, x -> x.undoCount());
        due(0, x -> x.textLength());
        due("throws.IllegalStateException", x -> x.loadState(0));
    }

    // ---- promise 2

    void setPutsInPlaceOfWhatIsThere() {
        says(2, "Puts a fraction onto a plate, in place of what is there");
        due(4, x -> x.set(2, 3, 4));
        holds(2, 3, 4);
        due(3, x -> x.set(2, 1, 3));
        holds(2, 1, 3);
        holds(1, 0, 1);
        holds(3, 0, 1);
    }

    void setTakesOtherThanLowestTerms() {
        says(2, "it need not be in lowest terms");
        due(4, x -> x.set(0, 6, 8));
        holds(0, 3, 4);
        due(1, x -> x.set(0, 1000000, 1000000));
        holds(0, 1, 1);
        due(500000, x -> x.set(0, 2, 1000000));
        holds(0, 1, 500000);
        due(1, x -> x.set(0, 1000000, 2));
        holds(0, 500000, 1);
        due(999999, x -> x.set(0, 1000000, 999999));
        holds(0, 1000000, 999999);
        due(1000000, x -> x.set(0, 999999, 1000000));
        holds(0, 999999, 1000000);
    }

    void setOfZeroIsZeroOverOne() {
        says("Terms", "0 is 0 / 1.");
        due(1, x -> x.set(0, 0, 1));
        due(1, x -> x.set(1, 0, 7));
        due(1, x -> x.set(2, 0, 1000000));
        holds(0, 0, 1);
        holds(1, 0, 1);
        holds(2, 0, 1);
    }

    void setTakesNumerators0To1000000() {
        says(2, "`numerator`: 0 to 1000000");
        due(7, x -> x.set(1, 1, 7));
        due(1, x -> x.set(1, 0, 7));
        holds(1, 0, 1);
        due(7, x -> x.set(1, 1000000, 7));
        holds(1, 1000000, 7);
        for (int beyond : new int[] {-1, 1000001, Integer.MIN_VALUE, Integer.MAX_VALUE}) {
            refused(ARGUMENT, x -> x.set(0, beyond, 7));
        }
    }

    void setTakesDenominators1To1000000() {
        says(2, "`denominator`: 1 to 1000000");
        due(1, x -> x.set(1, 7, 1));
        holds(1, 7, 1);
        due(1000000, x -> x.set(1, 7, 1000000));
        holds(1, 7, 1000000);
        for (int beyond : new int[] {0, -1, 1000001, Integer.MIN_VALUE, Integer.MAX_VALUE}) {
            refused(ARGUMENT, x -> x.set(0, 7, beyond));
        }
    }

    void setLooksAtTheRangesAheadOfLowestTerms() {
        says(2, "Throws `IllegalArgumentException` if numerator or denominator is out of range");
        refused(ARGUMENT, x -> x.set(0, 1000002, 2));
        refused(ARGUMENT, x -> x.set(0, 2, 1000002));
        refused(ARGUMENT, x -> x.set(0, 2000000, 2000000));
        refused(ARGUMENT, x -> x.set(0, 0, 0));
        refused(ARGUMENT, x -> x.set(0, -1, -1));
        refused(ARGUMENT, x -> x.set(0, 0, 1000001));
    }

    void setKnowsPlates0To5() {
        says(2, NO_PLATE);
        platesAre0To5((x, plate) -> x.set(plate, 1, 2));
        x.set(0, 1, 2);
        x.set(5, 1, 3);
        holds(0, 1, 2);
        holds(5, 1, 3);
    }

    void setOfEachPlate() {
        says(2, "Puts a fraction onto a plate, in place of what is there");
        changesEachPlate(2, 5, (x, plate) -> x.set(plate, 4, 10));
    }

    void setThrowsTheFirst() {
        says(2, THE_FIRST);
        refused(INDEX, x -> x.set(6, -1, 1));
        refused(INDEX, x -> x.set(-1, 1, 0));
        refused(INDEX, x -> x.set(6, 1000001, 1000001));
    }

    // ---- promise 3

    void addKeepsTheOther() {
        says(3, OTHER_KEEPS_IT);
        put(x, 1, 6, 1, 3);
        due(2, x -> x.add(0, 1));
        holds(0, 1, 2);
        holds(1, 1, 3);
    }

    void addOfEachTwoPlates() {
        says(3, "Adds what is on another plate to a plate; the other one keeps it.");
        changesEachTwo(new int[] {11, 12}, new int[] {1, 6},
                (x, plate, other) -> x.add(plate, other));
    }

    void addOfAPlateToItself() {
        says(3, "Adds what is on another plate to a plate");
        put(x, 1, 4, 1, 3);
        due(2, x -> x.add(0, 0));
        holds(0, 1, 2);
        due(3, x -> x.add(1, 1));
        holds(1, 2, 3);
    }

    void addOfZero() {
        says(3, "Adds what is on another plate to a plate");
        put(x, 1, 4, 1, 3);
        due(4, x -> x.add(0, 5));
        holds(0, 1, 4);
        due(3, x -> x.add(5, 1));
        holds(5, 1, 3);
        due(1, x -> x.add(4, 3));
        holds(4, 0, 1);
    }

    void addUpToTheGreatestNumerator() {
        says(3, NO_FRACTION_BEYOND);
        put(x, 999999, 1, 1, 1);
        due(1, x -> x.add(0, 1));
        holds(0, 1000000, 1);
        put(x, 499999, 3, 500001, 3);
        due(3, x -> x.add(0, 1));
        holds(0, 1000000, 3);
    }

    void addBeyondTheGreatestNumerator() {
        says(3, "Throws `IllegalStateException` if the sum is not possible");
        refused(STATE, x -> put(x, 1000000, 1, 1, 1), x -> x.add(0, 1));
        refused(STATE, x -> put(x, 500000, 3, 500001, 3), x -> x.add(0, 1));
        refused(STATE, x -> put(x, 1000000, 1, 1000000, 1), x -> x.add(0, 1));
        refused(STATE, x -> put(x, 1000000, 1, 0, 1), x -> x.add(0, 0));
        refused(STATE, x -> put(x, 1000000, 999999, 1000000, 999997), x -> x.add(0, 1));
    }

    void addUpToTheGreatestDenominator() {
        says(3, NO_FRACTION_BEYOND);
        put(x, 1, 64, 1, 15625);
        due(1000000, x -> x.add(0, 1));
        holds(0, 15689, 1000000);
    }

    void addBeyondTheGreatestDenominator() {
        says(3, "Throws `IllegalStateException` if the sum is not possible");
        refused(STATE, x -> put(x, 1, 101, 1, 9901), x -> x.add(0, 1));
        refused(STATE, x -> put(x, 1, 1000000, 1, 999999), x -> x.add(0, 1));
    }

    void addIsPossibleInLowestTerms() {
        says(3, LOWEST_TERMS);
        put(x, 1, 1000000, 999999, 1000000);
        due(1, x -> x.add(0, 1));
        holds(0, 1, 1);
        put(x, 999999, 2, 999999, 2);
        due(1, x -> x.add(0, 1));
        holds(0, 999999, 1);
        put(x, 1000000, 999999, 999998, 999999);
        due(1, x -> x.add(0, 1));
        holds(0, 2, 1);
        x.set(0, 1, 1000000);
        due(500000, x -> x.add(0, 0));
        holds(0, 1, 500000);
    }

    void addKnowsPlates0To5() {
        says(3, NO_PLATE);
        platesAre0To5((x, plate) -> x.add(plate, 1));
        platesAre0To5((x, plate) -> x.add(0, plate));
        platesAre0To5((x, plate) -> x.add(plate, plate));
    }

    void addThrowsTheFirst() {
        says(3, THE_FIRST);
        refused(INDEX, x -> put(x, 1000000, 1, 1000000, 1), x -> x.add(0, 6));
        refused(INDEX, x -> put(x, 1000000, 1, 1000000, 1), x -> x.add(-1, 0));
    }

    // ---- promise 4

    void takeAwayKeepsTheOther() {
        says(4, OTHER_KEEPS_IT);
        put(x, 1, 2, 1, 6);
        due(3, x -> x.takeAway(0, 1));
        holds(0, 1, 3);
        holds(1, 1, 6);
    }

    void takeAwayOfEachTwoPlates() {
        says(4, "Takes what is on another plate from a plate; the other one keeps it.");
        changesEachTwo(new int[] {7, 12}, new int[] {1, 6},
                (x, plate, other) -> x.takeAway(plate, other));
    }

    void takeAwayOfAsMuchLeavesZero() {
        says("Terms", "0 is 0 / 1.");
        put(x, 1, 7, 1, 7);
        due(1, x -> x.takeAway(0, 1));
        holds(0, 0, 1);
        due(1, x -> x.takeAway(1, 1));
        holds(1, 0, 1);
        due(1, x -> x.takeAway(0, 1));
        holds(0, 0, 1);
    }

    void takeAwayOfZero() {
        says(4, "Takes what is on another plate from a plate");
        x.set(0, 3, 7);
        due(7, x -> x.takeAway(0, 5));
        holds(0, 3, 7);
    }

    void takeAwayOfALittleLess() {
        says(4, "Takes what is on another plate from a plate");
        put(x, 500001, 1000000, 1, 2);
        due(1000000, x -> x.takeAway(0, 1));
        holds(0, 1, 1000000);
    }

    void takeAwayOfMore() {
        says(4, "if the plate holds less than the other one");
        refused(STATE, x -> put(x, 1, 2, 500001, 1000000), x -> x.takeAway(0, 1));
        refused(STATE, x -> put(x, 0, 1, 1, 1000000), x -> x.takeAway(0, 1));
        refused(STATE, x -> put(x, 1, 2, 2, 3), x -> x.takeAway(0, 1));
        refused(STATE, x -> put(x, 0, 1, 1000000, 1), x -> x.takeAway(0, 1));
        refused(STATE, x -> put(x, 1, 1000000, 1000000, 1), x -> x.takeAway(0, 1));
    }

    void takeAwayUpToTheGreatestNumerator() {
        says(4, NO_FRACTION_BEYOND);
        put(x, 142858, 1, 6, 7);
        due(7, x -> x.takeAway(0, 1));
        holds(0, 1000000, 7);
    }

    void takeAwayBeyondTheGreatestNumerator() {
        says(4, "or what is left is not possible");
        refused(STATE, x -> put(x, 142858, 1, 5, 7), x -> x.takeAway(0, 1));
        refused(STATE, x -> put(x, 1000000, 1, 1, 2), x -> x.takeAway(0, 1));
    }

    void takeAwayUpToTheGreatestDenominator() {
        says(4, NO_FRACTION_BEYOND);
        put(x, 1, 64, 1, 15625);
        due(1000000, x -> x.takeAway(0, 1));
        holds(0, 15561, 1000000);
    }

    void takeAwayBeyondTheGreatestDenominator() {
        says(4, "or what is left is not possible");
        refused(STATE, x -> put(x, 1, 101, 1, 9901), x -> x.takeAway(0, 1));
        refused(STATE, x -> put(x, 1, 999999, 1, 1000000), x -> x.takeAway(0, 1));
        refused(STATE, x -> put(x, 1, 1000000, 1, 999999), x -> x.takeAway(0, 1));
    }

    void takeAwayIsPossibleInLowestTerms() {
        says(4, LOWEST_TERMS);
        put(x, 999999, 1000000, 499999, 1000000);
        due(2, x -> x.takeAway(0, 1));
        holds(0, 1, 2);
    }

    void takeAwayKnowsPlates0To5() {
        says(4, NO_PLATE);
        platesAre0To5((x, plate) -> x.takeAway(2, plate));
        platesAre0To5((x, plate) -> x.takeAway(plate, plate));
        refused(INDEX, x -> x.takeAway(6, 1));
        refused(INDEX, x -> x.takeAway(-1, 1));
    }

    void takeAwayThrowsTheFirst() {
        says(4, THE_FIRST);
        refused(INDEX, x -> x.set(0, 0, 1), x -> x.takeAway(0, 6));
        refused(INDEX, x -> x.set(0, 0, 1), x -> x.takeAway(-1, 1));
    }

    // ---- promise 5

    void multiplyChangesThePlateAlone() {
        says(5, "Multiplies a plate by another one.");
        put(x, 4, 9, 3, 8);
        due(6, x -> x.multiply(0, 1));
        holds(0, 1, 6);
        holds(1, 3, 8);
    }

    void multiplyOfEachTwoPlates() {
        says(5, "Multiplies a plate by another one.");
        changesEachTwo(new int[] {1, 8}, new int[] {1, 6},
                (x, plate, other) -> x.multiply(plate, other));
    }

    void multiplyByItself() {
        says(5, "Multiplies a plate by another one.");
        x.set(0, 3, 8);
        due(64, x -> x.multiply(0, 0));
        holds(0, 9, 64);
    }

    void multiplyByZero() {
        says("Terms", "0 is 0 / 1.");
        x.set(0, 3, 8);
        due(1, x -> x.multiply(0, 5));
        holds(0, 0, 1);
        x.set(1, 1000000, 999999);
        due(1, x -> x.multiply(0, 1));
        holds(0, 0, 1);
        due(1, x -> x.multiply(4, 5));
        holds(4, 0, 1);
    }

    void multiplyUpToTheGreatestNumerator() {
        says(5, NO_FRACTION_BEYOND);
        put(x, 1000, 1, 1000, 999);
        due(999, x -> x.multiply(0, 1));
        holds(0, 1000000, 999);
    }

    void multiplyBeyondTheGreatestNumerator() {
        says(5, "Throws `IllegalStateException` if the product is not possible");
        refused(STATE, x -> put(x, 101, 1, 9901, 1), x -> x.multiply(0, 1));
        refused(STATE, x -> put(x, 101, 3, 9901, 7), x -> x.multiply(0, 1));
        refused(STATE, x -> put(x, 1000000, 1, 1000000, 1), x -> x.multiply(0, 1));
    }

    void multiplyUpToTheGreatestDenominator() {
        says(5, NO_FRACTION_BEYOND);
        put(x, 1, 1000, 999, 1000);
        due(1000000, x -> x.multiply(0, 1));
        holds(0, 999, 1000000);
    }

    void multiplyBeyondTheGreatestDenominator() {
        says(5, "Throws `IllegalStateException` if the product is not possible");
        refused(STATE, x -> put(x, 1, 101, 1, 9901), x -> x.multiply(0, 1));
        refused(STATE, x -> put(x, 3, 101, 7, 9901), x -> x.multiply(0, 1));
        refused(STATE, x -> put(x, 1, 1000000, 1, 1000000), x -> x.multiply(0, 1));
        refused(STATE, x -> put(x, 999999, 1000000, 999999, 1000000), x -> x.multiply(0, 0));
    }

    void multiplyIsPossibleInLowestTerms() {
        says(5, LOWEST_TERMS);
        put(x, 1000000, 999999, 999999, 1000000);
        due(1, x -> x.multiply(0, 1));
        holds(0, 1, 1);
        put(x, 1, 1000000, 1000000, 1);
        due(1, x -> x.multiply(0, 1));
        holds(0, 1, 1);
    }

    void multiplyKnowsPlates0To5() {
        says(5, NO_PLATE);
        platesAre0To5((x, plate) -> x.multiply(plate, 1));
        platesAre0To5((x, plate) -> x.multiply(1, plate));
        platesAre0To5((x, plate) -> x.multiply(plate, plate));
    }

    void multiplyThrowsTheFirst() {
        says(5, THE_FIRST);
        refused(INDEX, x -> x.multiply(4, 6));
        refused(INDEX, x -> x.multiply(-1, 4));
    }

    // ---- promise 6

    void copyToGoesFromTheFirstToTheOther() {
        says(6, "Copies what is on a plate to another one.");
        put(x, 3, 4, 1, 5);
        due(false, x -> x.copyTo(0, 1));
        holds(0, 3, 4);
        holds(1, 3, 4);
    }

    void copyToOfEachTwoPlates() {
        says(6, "Copies what is on a plate to another one.");
        changesEachTwo(new int[] {3, 4}, new int[] {3, 4},
                (x, plate, other) -> x.copyTo(plate, other));
    }

    void copyToTellsWhetherTheOtherHeldTheSame() {
        says(6, "Returns whether the other one held the same before.");
        put(x, 3, 4, 3, 5);
        due(false, x -> x.copyTo(0, 1));
        due(true, x -> x.copyTo(0, 1));
        put(x, 3, 4, 1, 4);
        due(false, x -> x.copyTo(0, 1));
        put(x, 3, 4, 6, 8);
        due(true, x -> x.copyTo(0, 1));
        put(x, 999999, 1000000, 999998, 999999);
        due(false, x -> x.copyTo(1, 0));
        holds(0, 999998, 999999);
    }

    void copyToOfZero() {
        says(6, "Returns whether the other one held the same before.");
        x.set(0, 1, 2);
        x.set(1, 0, 7);
        due(true, x -> x.copyTo(1, 2));
        due(false, x -> x.copyTo(1, 0));
        holds(0, 0, 1);
    }

    void copyToItself() {
        says(6, "Returns whether the other one held the same before.");
        x.set(0, 1, 2);
        due(true, x -> x.copyTo(0, 0));
        due(true, x -> x.copyTo(5, 5));
        holds(0, 1, 2);
        due(3, x -> x.undoCount());
    }

    void copyToKnowsPlates0To5() {
        says(6, NO_PLATE);
        platesAre0To5((x, plate) -> x.copyTo(plate, 1));
        platesAre0To5((x, plate) -> x.copyTo(1, plate));
        platesAre0To5((x, plate) -> x.copyTo(plate, plate));
    }

    // ---- promise 7

    void invertPutsTheReciprocal() {
        says(7, "Puts the reciprocal onto a plate.");
        x.set(0, 3, 4);
        due(3, x -> x.invert(0));
        holds(0, 4, 3);
        due(4, x -> x.invert(0));
        holds(0, 3, 4);
        x.set(0, 1, 1);
        due(1, x -> x.invert(0));
        holds(0, 1, 1);
    }

    void invertOfEachPlate() {
        says(7, "Puts the reciprocal onto a plate.");
        changesEachPlate(4, 3, (x, plate) -> x.invert(plate));
    }

    void invertOfTheGreatestAndTheLeast() {
        says(7, "Puts the reciprocal onto a plate.");
        x.set(0, 1000000, 1);
        due(1000000, x -> x.invert(0));
        holds(0, 1, 1000000);
        due(1, x -> x.invert(0));
        holds(0, 1000000, 1);
        x.set(0, 999999, 1000000);
        due(999999, x -> x.invert(0));
        holds(0, 1000000, 999999);
    }

    void invertOfZero() {
        says(7, "Throws `IllegalStateException` if the plate is 0");
        refused(STATE, x -> x.set(5, 0, 1), x -> x.invert(5));
        refused(STATE, x -> x.set(5, 0, 1000000), x -> x.invert(5));
        refused(STATE, x -> x.takeAway(5, 5), x -> x.invert(5));
        refusedOnEachPlate(STATE, 0, 1, (x, plate) -> x.invert(plate));
    }

    void invertKnowsPlates0To5() {
        says(7, NO_PLATE);
        platesAre0To5((x, plate) -> x.invert(plate));
    }

    // ---- promise 8

    void shareKeepsTheShareOfOne() {
        says(8, "the plate keeps the share of one guest");
        x.set(0, 3, 4);
        due(8, x -> x.share(0, 2));
        holds(0, 3, 8);
        due(8, x -> x.share(0, 3));
        holds(0, 1, 8);
    }

    void shareOfEachPlate() {
        says(8, "Shares what is on a plate among guests");
        changesEachPlate(3, 8, (x, plate) -> x.share(plate, 2));
    }

    void shareAmong1To100() {
        says(8, "`guests`: 1 to 100");
        x.set(0, 3, 7);
        due(7, x -> x.share(0, 1));
        holds(0, 3, 7);
        due(700, x -> x.share(0, 100));
        holds(0, 3, 700);
        for (int beyond : new int[] {0, 101, -1, Integer.MIN_VALUE, Integer.MAX_VALUE}) {
            refused(ARGUMENT, x -> x.share(0, beyond));
        }
    }

    void shareOfZero() {
        says("Terms", "0 is 0 / 1.");
        due(1, x -> x.share(0, 1));
        due(1, x -> x.share(0, 100));
        holds(0, 0, 1);
    }

    void shareUpToTheGreatestDenominator() {
        says(8, NO_FRACTION_BEYOND);
        x.set(0, 1, 10000);
        due(1000000, x -> x.share(0, 100));
        holds(0, 1, 1000000);
        due(1000000, x -> x.share(0, 1));
        x.set(0, 100, 999999);
        due(999999, x -> x.share(0, 100));
        holds(0, 1, 999999);
        x.set(0, 1000000, 1);
        due(1, x -> x.share(0, 100));
        holds(0, 10000, 1);
    }

    /** 1000001 has no divisor from 2 to 100, so that 1000002 is the first one beyond. */
    void shareBeyondTheGreatestDenominator() {
        says(8, "Throws `IllegalStateException` if the share is not possible");
        refused(STATE, x -> x.set(0, 1, 500001), x -> x.share(0, 2));
        refused(STATE, x -> x.set(0, 1, 1000000), x -> x.share(0, 2));
        refused(STATE, x -> x.set(0, 999999, 1000000), x -> x.share(0, 100));
        refused(STATE, x -> x.set(0, 50, 999999), x -> x.share(0, 100));
    }

    void shareKnowsPlates0To5() {
        says(8, NO_PLATE);
        platesAre0To5((x, plate) -> x.share(plate, 2));
    }

    void shareThrowsTheFirst() {
        says(8, THE_FIRST);
        refused(ARGUMENT, x -> x.share(3, 101));
        refused(ARGUMENT, x -> x.share(3, Integer.MAX_VALUE));
        refused(INDEX, x -> x.share(6, 0));
        refused(INDEX, x -> x.share(-1, 101));
    }

    // ---- promise 9

    void roundToMakesThePlateTheNearest() {
        says(9, "Makes a plate the nearest fraction for a greatest denominator");
        x.set(0, 355, 113);
        due(113, x -> x.roundTo(0, 113));
        holds(0, 355, 113);
        due(106, x -> x.roundTo(0, 112));
        holds(0, 333, 106);
        due(7, x -> x.roundTo(0, 7));
        holds(0, 22, 7);
    }

    void roundToOfEachPlate() {
        says(9, "Makes a plate the nearest fraction for a greatest denominator");
        changesEachPlate(2, 3, (x, plate) -> x.roundTo(plate, 3));
    }

    void roundToTakesTheFirstOfSeveral() {
        says("Terms", "of several the one with the least d, and then the lesser one");
        x.set(0, 5, 12);
        due(2, x -> x.roundTo(0, 3));
        holds(0, 1, 2);
        due(1, x -> x.roundTo(0, 1));
        holds(0, 0, 1);
    }

    void roundToOfZero() {
        says("Terms", "0 is 0 / 1.");
        due(1, x -> x.roundTo(0, 1));
        due(1, x -> x.roundTo(0, 1000));
        holds(0, 0, 1);
    }

    void roundToGreatest1To1000() {
        says(9, "`greatest`: 1 to 1000");
        x.set(0, 999, 1000);
        due(1000, x -> x.roundTo(0, 1000));
        holds(0, 999, 1000);
        due(1, x -> x.roundTo(0, 1));
        holds(0, 1, 1);
        for (int beyond : new int[] {0, 1001, -1, Integer.MIN_VALUE, Integer.MAX_VALUE}) {
            refused(ARGUMENT, x -> x.roundTo(0, beyond));
        }
    }

    void roundToKnowsPlates0To5() {
        says(9, NO_PLATE);
        platesAre0To5((x, plate) -> x.roundTo(plate, 10));
    }

    void roundToThrowsTheFirst() {
        says(9, THE_FIRST);
        refused(INDEX, x -> x.roundTo(6, 0));
        refused(INDEX, x -> x.roundTo(-1, 1001));
    }
}
