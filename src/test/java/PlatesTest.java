/** Promises 10 to 15: what is told of the plates. */
public final class PlatesTest extends Sentences {
    private static final String GREATEST_FIRST =
            "by its place in the order of what the plates hold, the greatest first";
    private static final String LEAST_PARTS = "Returns the least number of equal parts into which"
            + " a pie can be cut so that each plate holds whole parts";
    private static final String HOW_MANY = "Returns how many different fractions the plates hold.";

    public static void main(String[] args) {
        new PlatesTest().run();
    }

    // ---- promises 10 and 11

    void numeratorOfTheLeastAndTheGreatest() {
        says(10, "Returns the numerator of a plate.");
        due(0, x -> x.numeratorOf(0));
        x.set(0, 1000000, 999999);
        due(1000000, x -> x.numeratorOf(0));
        x.set(5, 10, 4);
        due(5, x -> x.numeratorOf(5));
    }

    void numeratorOfKnowsPlates0To5() {
        says(10, NO_PLATE);
        platesAre0To5((x, plate) -> x.numeratorOf(plate));
    }

    void denominatorOfTheLeastAndTheGreatest() {
        says(11, "Returns the denominator of a plate.");
        due(1, x -> x.denominatorOf(0));
        x.set(0, 999999, 1000000);
        due(1000000, x -> x.denominatorOf(0));
        x.set(5, 10, 4);
        due(2, x -> x.denominatorOf(5));
    }

    void denominatorOfKnowsPlates0To5() {
        says(11, NO_PLATE);
        platesAre0To5((x, plate) -> x.denominatorOf(plate));
    }

    // ---- promise 12

    private void compared(int order) {
        due(order, x -> x.compare(0, 1));
        due(-order, x -> x.compare(1, 0));
    }

    void compareOfLessAndMore() {
        says(12, "-1 if the first one holds less, 1 if it holds more");
        x.set(0, 1, 3);
        x.set(1, 1, 2);
        compared(-1);
        x.set(0, 2, 3);
        compared(1);
    }

    void compareOfNeighbours() {
        says(12, "-1 if the first one holds less, 1 if it holds more");
        x.set(0, 999998, 999999);
        x.set(1, 999999, 1000000);
        compared(-1);
        x.set(0, 1000000, 999999);
        x.set(1, 999999, 999998);
        compared(-1);
        x.set(0, 1000000, 1);
        x.set(1, 999999, 1);
        compared(1);
        x.set(0, 1, 1000000);
        x.set(1, 1, 999999);
        compared(-1);
    }

    void compareWithZero() {
        says(12, "-1 if the first one holds less, 1 if it holds more");
        x.set(0, 1, 1000000);
        compared(1);
        x.set(0, 1000000, 1);
        compared(1);
    }

    void compareOfTheSame() {
        says(12, "0 if both hold the same");
        compared(0);
        x.set(0, 1, 3);
        x.set(1, 2, 6);
        compared(0);
        due(0, x -> x.compare(0, 0));
        x.set(0, 999999, 1000000);
        x.set(1, 999999, 1000000);
        compared(0);
    }

    void compareKnowsPlates0To5() {
        says(12, NO_PLATE);
        platesAre0To5((x, plate) -> x.compare(plate, 1));
        platesAre0To5((x, plate) -> x.compare(1, plate));
        platesAre0To5((x, plate) -> x.compare(plate, plate));
    }

    // ---- promise 13

    private void order(int... plates) {
        for (int place = 0; place < plates.length; place++) {
            int asked = place;
            due(plates[place], x -> x.plateByAmount(asked));
        }
    }

    void plateByAmountTellsTheGreatestFirst() {
        says(13, GREATEST_FIRST);
        for (int plate = 0; plate < 6; plate++) {
            x.set(plate, plate + 1, 7);
        }
        order(5, 4, 3, 2, 1, 0);
        x.set(5, 0, 1);
        x.set(1, 8, 9);
        order(1, 4, 3, 2, 0, 5);
    }

    void plateByAmountOfNeighbours() {
        says(13, GREATEST_FIRST);
        x.set(0, 999998, 999999);
        x.set(1, 1000000, 999999);
        x.set(2, 999999, 1000000);
        x.set(3, 1, 1000000);
        x.set(4, 999999, 999998);
        order(4, 1, 2, 0, 3, 5);
    }

    void plateByAmountOfTheSame() {
        says(13, "of plates that hold the same the lower one first");
        order(0, 1, 2, 3, 4, 5);
        x.set(1, 1, 3);
        x.set(2, 7, 2);
        x.set(4, 2, 6);
        x.set(5, 1, 2);
        order(2, 5, 1, 4, 0, 3);
        x.set(0, 3, 9);
        x.set(3, 5, 15);
        order(2, 5, 0, 1, 3, 4);
    }

    void plateByAmountKnowsPlaces0To5() {
        says(13, "`place`: 0 to 5");
        due(0, x -> x.plateByAmount(0));
        due(5, x -> x.plateByAmount(5));
        platesAre0To5((x, place) -> x.plateByAmount(place));
    }

    // ---- promise 14

    private void denominators(int... denominators) {
        for (int plate = 0; plate < denominators.length; plate++) {
            x.set(plate, 1, denominators[plate]);
        }
    }

    void commonPartsOfWholePies() {
        says(14, LEAST_PARTS);
        due(1L, x -> x.commonParts());
        x.set(0, 1000000, 1);
        x.set(1, 4, 2);
        due(1L, x -> x.commonParts());
    }

    void commonPartsAreTheLeast() {
        says(14, LEAST_PARTS);
        x.set(0, 5, 4);
        x.set(1, 1, 6);
        due(12L, x -> x.commonParts());
        x.set(2, 2, 9);
        due(36L, x -> x.commonParts());
        denominators(1000000, 999999, 1001);
        due(999999000000L, x -> x.commonParts());
    }

    void commonPartsOfEachPlate() {
        says(14, LEAST_PARTS);
        for (int plate = 0; plate < 6; plate++) {
            x = new SliceShares();
            x.set(plate, 1, 7);
            due(7L, x -> x.commonParts());
        }
        denominators(2, 3, 5, 7, 11, 13);
        due(30030L, x -> x.commonParts());
    }

    /** 10^15 to 10^15 - 2 have prime factors or powers above 1000000: no plates need so many. */
    void commonPartsUpToTheGreatest() {
        says(14, "NONE if it is greater than 1000000000000000");
        denominators(599, 2131, 3733, 209861);
        due(999999999999997L, x -> x.commonParts());
        denominators(1, 1, 3733, 209861, 2131, 599);
        due(999999999999997L, x -> x.commonParts());
    }

    void commonPartsBeyondTheGreatest() {
        says(14, "NONE if it is greater than 1000000000000000");
        denominators(211211, 520801, 9091);
        due(-1L, x -> x.commonParts());
        denominators(1, 1, 1, 9091, 211211, 520801);
        due(-1L, x -> x.commonParts());
        denominators(599, 2131, 3733, 209861, 2);
        due(-1L, x -> x.commonParts());
    }

    /** The product of all six denominators does not fit into a long. */
    void commonPartsFarBeyond() {
        says(14, "NONE if it is greater than 1000000000000000");
        denominators(999983, 999979, 999961, 999959, 999953, 999931);
        due(-1L, x -> x.commonParts());
        denominators(999983, 999979, 999961, 1, 1, 1);
        due(-1L, x -> x.commonParts());
        x.set(2, 1, 1);
        due(999983L * 999979L, x -> x.commonParts());
    }

    // ---- promise 15

    void differentFractionsFrom1To6() {
        says(15, HOW_MANY);
        due(1, x -> x.differentFractions());
        for (int plate = 0; plate < 5; plate++) {
            int different = plate + 2;
            x.set(plate, 1, plate + 1);
            due(different, x -> x.differentFractions());
        }
        x.set(5, 1, 6);
        due(6, x -> x.differentFractions());
    }

    void differentFractionsThatAreTheSame() {
        says(15, HOW_MANY);
        x.set(3, 0, 7);
        due(1, x -> x.differentFractions());
        for (int plate = 0; plate < 6; plate++) {
            x.set(plate, plate + 1, 2 * (plate + 1));
        }
        due(1, x -> x.differentFractions());
        x.set(0, 3, 2);
        due(2, x -> x.differentFractions());
        x.set(5, 3, 2);
        due(2, x -> x.differentFractions());
        x.set(3, 3, 5);
        due(3, x -> x.differentFractions());
    }

    void differentFractionsOfNeighbours() {
        says(15, HOW_MANY);
        x.set(0, 999998, 999999);
        x.set(1, 999999, 1000000);
        x.set(2, 1000000, 999999);
        x.set(3, 999999, 999998);
        x.set(4, 1, 1);
        due(6, x -> x.differentFractions());
    }
}
