/** Promises 23 to 27: unit fractions and the tree. */
public final class UnitsAndTreeTest extends Sentences {
    private static final String ONE_OR_MORE =
            "Throws `IllegalStateException` if the plate holds 1 or more";
    private static final String ZERO = "Throws `IllegalStateException` if the plate is 0";
    private static final String TURNS =
            "Returns how often the way to a plate in the tree changes between left and right.";
    private static final String AT_THE_MIDDLE = "at the middle itself the way ends";

    public static void main(String[] args) {
        new UnitsAndTreeTest().run();
    }

    // ---- promises 23 and 24

    /** The count is -1 if a unit is too great; units beyond those that are named are not told. */
    private void units(int numerator, int denominator, int count, int... units) {
        x.set(0, numerator, denominator);
        due(count, x -> x.unitCount(0));
        for (int i = 0; i < 4; i++) {
            int unit = i;
            due(i < units.length ? units[i] : -1, x -> x.unitAt(0, unit));
        }
    }

    void unitsOfZero() {
        says("Terms", "as long as x is not 0");
        units(0, 1, 0);
        due(0, x -> x.unitCount(5));
    }

    void unitsThatAreAllOfTheFraction() {
        says("Terms", "the greatest fraction 1 / u that is at most x");
        units(1, 2, 1, 2);
        units(1, 7, 1, 7);
        units(1, 999999, 1, 999999);
        units(1, 1000000, 1, 1000000);
    }

    void unitsOfALittleMoreAndALittleLess() {
        says("Terms", "the greatest fraction 1 / u that is at most x");
        units(500001, 1000000, 2, 2, 1000000);
        units(499999, 1000000, -1, 3, 7, 43, 1810);
        units(3, 4, 2, 2, 4);
        units(2, 3, 2, 2, 6);
        units(2, 5, 2, 3, 15);
    }

    void unitsOfTheGreatestBelowOne() {
        says("Terms", "The units of a fraction x less than 1");
        units(999999, 1000000, -1, 2, 3, 7, 43);
        units(999998, 999999, -1, 2, 3, 7, 43);
    }

    void unitCountFrom0To6() {
        says(23, "Returns how many units a plate has.");
        units(0, 1, 0);
        units(1, 2, 1, 2);
        units(3, 4, 2, 2, 4);
        units(11, 12, 3, 2, 3, 12);
        units(4, 17, 4, 5, 29, 1233, 3039345);
        units(16, 17, 5, 2, 3, 10, 128);
        units(30, 31, 6, 2, 3, 8, 107);
    }

    void unitsOfEachPlate() {
        says(23, "Returns how many units a plate has.");
        answersOnEachPlate(11, 12, 3, (x, plate) -> x.unitCount(plate));
        says(24, "Returns the u of a unit 1 / u of a plate.");
        answersOnEachPlate(11, 12, 2, (x, plate) -> x.unitAt(plate, 0));
        answersOnEachPlate(11, 12, 12, (x, plate) -> x.unitAt(plate, 2));
    }

    void unitCountWithAGreatUnit() {
        says(23, "Returns how many; NONE if a u would be greater than 1000000000.");
        units(1000, 999999, 2, 1000, 999999000);
    }

    void unitCountWithAUnitTooGreat() {
        says(23, "Returns how many; NONE if a u would be greater than 1000000000.");
        units(2, 999999, -1, 500000);
        units(999, 999998, -1, 1001);
        units(5, 121, -1, 25, 757, 763309);
    }

    /** No fraction of a plate ends with the unit 10^9; this one goes on behind it. */
    void unitAtTheGreatestUnit() {
        says(24, "would have a u that is greater than 1000000000");
        units(5585, 661518, -1, 119, 25419, 1000000000);
    }

    /** Its last unit is 10^9 + 1. */
    void unitAtTheFirstUnitTooGreat() {
        says(24, "would have a u that is greater than 1000000000");
        units(192457, 999001, -1, 6, 39, 2926);
    }

    /** The denominator of what is left for the fifth one does not fit into a long. */
    void unitAtAheadOfAUnitFarTooGreat() {
        says("Terms", "A unit behind one with a u above 40000 always has a u above 1000000000.");
        units(49, 459, -1, 10, 149, 23584, 620358979);
        units(41, 422, -1, 11, 161, 27681, 827509101);
        units(39, 398, -1, 11, 142, 25904, 805194756);
    }

    void unitAtIsTakenExactly() {
        says("Terms", "is taken from it, exactly");
        units(8, 11, 4, 2, 5, 37, 4070);
        units(5, 121, -1, 25, 757, 763309);
    }

    void unitAtOfUnits0To3() {
        says(24, "`unit`: 0 to 3");
        x.set(0, 16, 17);
        due(2, x -> x.unitAt(0, 0));
        due(128, x -> x.unitAt(0, 3));
        for (int beyond : new int[] {-1, 4, 5, 8, Integer.MIN_VALUE, Integer.MAX_VALUE}) {
            refused(INDEX, x -> x.set(0, 16, 17), x -> x.unitAt(0, beyond));
            refused(INDEX, x -> x.set(0, 0, 1), x -> x.unitAt(0, beyond));
        }
    }

    void unitAtBehindTheLast() {
        says(24, "Returns u; NONE if there are not so many");
        x.set(0, 11, 12);
        due(12, x -> x.unitAt(0, 2));
        due(-1, x -> x.unitAt(0, 3));
        x.set(0, 1, 2);
        due(2, x -> x.unitAt(0, 0));
        due(-1, x -> x.unitAt(0, 1));
        x.set(0, 0, 1);
        due(-1, x -> x.unitAt(0, 0));
        due(-1, x -> x.unitAt(0, 3));
    }

    void unitAtUpToOneThatIsTooGreat() {
        says(24, "or one of them up to this one would have a u that is greater");
        x.set(0, 2, 999999);
        due(500000, x -> x.unitAt(0, 0));
        due(-1, x -> x.unitAt(0, 1));
        due(-1, x -> x.unitAt(0, 2));
        due(-1, x -> x.unitAt(0, 3));
    }

    void unitCountOfOneOrMore() {
        says(23, ONE_OR_MORE);
        refused(STATE, x -> x.set(0, 1, 1), x -> x.unitCount(0));
        refused(STATE, x -> x.set(0, 1000000, 999999), x -> x.unitCount(0));
        refused(STATE, x -> x.set(0, 1000000, 1), x -> x.unitCount(0));
        refusedOnEachPlate(STATE, 1, 1, (x, plate) -> x.unitCount(plate));
    }

    void unitAtOfOneOrMore() {
        says(24, ONE_OR_MORE);
        for (int i = 0; i < 4; i++) {
            int unit = i;
            refused(STATE, x -> x.set(0, 1, 1), x -> x.unitAt(0, unit));
            refused(STATE, x -> x.set(0, 1000000, 999999), x -> x.unitAt(0, unit));
            refused(STATE, x -> x.set(0, 1000000, 1), x -> x.unitAt(0, unit));
        }
        refusedOnEachPlate(STATE, 1, 1, (x, plate) -> x.unitAt(plate, 0));
    }

    void unitCountKnowsPlates0To5() {
        says(23, NO_PLATE);
        platesAre0To5((x, plate) -> x.unitCount(plate));
    }

    void unitAtKnowsPlates0To5() {
        says(24, NO_PLATE);
        platesAre0To5((x, plate) -> x.unitAt(plate, 0));
        refused(INDEX, x -> x.unitAt(6, 4));
    }

    void unitAtThrowsTheFirst() {
        says(24, THE_FIRST);
        refused(INDEX, x -> x.set(0, 1, 1), x -> x.unitAt(0, 4));
        refused(INDEX, x -> x.set(0, 1, 1), x -> x.unitAt(0, -1));
    }

    // ---- promises 25 to 27

    private void way(int numerator, int denominator, int steps, int turns, boolean right) {
        x.set(0, numerator, denominator);
        due(steps, x -> x.waySteps(0));
        due(turns, x -> x.wayTurns(0));
        due(right, x -> x.beginsRight(0));
    }

    void wayToTheRootHasNoStep() {
        says("Terms", "The tree of all fractions above 0 has 1 / 1 at its root.");
        way(1, 1, 0, 0, false);
        way(1000000, 1000000, 0, 0, false);
    }

    void wayOfOneStep() {
        says("Terms", AT_THE_MIDDLE);
        way(2, 1, 1, 0, true);
        way(1, 2, 1, 0, false);
    }

    void wayOfTwoSteps() {
        says("Terms", AT_THE_MIDDLE);
        way(3, 1, 2, 0, true);
        way(3, 2, 2, 1, true);
        way(2, 3, 2, 1, false);
        way(1, 3, 2, 0, false);
    }

    void wayOfMoreSteps() {
        says(26, TURNS);
        way(5, 2, 3, 1, true);
        way(5, 3, 3, 2, true);
        way(3, 5, 3, 2, false);
        way(2, 5, 3, 1, false);
        way(355, 113, 25, 2, true);
        way(113, 355, 25, 2, false);
    }

    void wayOfTheMostSteps() {
        says(25, "Returns how many steps the way to a plate in the tree has.");
        way(1000000, 1, 999999, 0, true);
        way(1, 1000000, 999999, 0, false);
        way(1000000, 999999, 999999, 1, true);
        way(999999, 1000000, 999999, 1, false);
    }

    void wayOfTheMostTurns() {
        says(26, TURNS);
        way(514229, 832040, 28, 27, false);
        way(832040, 514229, 28, 27, true);
    }

    void wayBeginsRightAboveTheRoot() {
        says(27, "Tells whether the first step of the way to a plate in the tree goes right.");
        x.set(0, 1000000, 999999);
        due(true, x -> x.beginsRight(0));
        x.set(0, 999999, 1000000);
        due(false, x -> x.beginsRight(0));
    }

    void wayOfEachPlate() {
        says(25, "Returns how many steps the way to a plate in the tree has.");
        answersOnEachPlate(355, 113, 25, (x, plate) -> x.waySteps(plate));
        says(26, TURNS);
        answersOnEachPlate(355, 113, 2, (x, plate) -> x.wayTurns(plate));
        says(27, "Tells whether the first step of the way to a plate in the tree goes right.");
        answersOnEachPlate(355, 113, true, (x, plate) -> x.beginsRight(plate));
    }

    /** What an earlier call had to find out of another plate does not stay. */
    void wayIsThatOfThePlateAsked() {
        says(26, TURNS);
        x.set(0, 355, 113);
        x.set(1, 7, 1);
        due(0, x -> x.wayTurns(1));
        due(2, x -> x.wayTurns(0));
        due(0, x -> x.wayTurns(1));
        due(25, x -> x.waySteps(0));
        due(6, x -> x.waySteps(1));
    }

    void wayStepsToZero() {
        says(25, ZERO);
        refused(STATE, x -> x.set(0, 0, 1), x -> x.waySteps(0));
        refused(STATE, x -> x.takeAway(0, 0), x -> x.waySteps(0));
        refusedOnEachPlate(STATE, 0, 1, (x, plate) -> x.waySteps(plate));
        x.set(0, 1, 1000000);
        due(999999, x -> x.waySteps(0));
    }

    void wayTurnsToZero() {
        says(26, ZERO);
        refused(STATE, x -> x.set(0, 0, 1), x -> x.wayTurns(0));
        refused(STATE, x -> x.takeAway(0, 0), x -> x.wayTurns(0));
        refusedOnEachPlate(STATE, 0, 1, (x, plate) -> x.wayTurns(plate));
        x.set(0, 1, 1000000);
        due(0, x -> x.wayTurns(0));
    }

    void beginsRightToZero() {
        says(27, ZERO);
        refused(STATE, x -> x.set(0, 0, 1), x -> x.beginsRight(0));
        refused(STATE, x -> x.takeAway(0, 0), x -> x.beginsRight(0));
        refusedOnEachPlate(STATE, 0, 1, (x, plate) -> x.beginsRight(plate));
        x.set(0, 1, 1000000);
        due(false, x -> x.beginsRight(0));
    }

    void wayStepsKnowsPlates0To5() {
        says(25, NO_PLATE);
        platesAre0To5((x, plate) -> x.waySteps(plate));
    }

    void wayTurnsKnowsPlates0To5() {
        says(26, NO_PLATE);
        platesAre0To5((x, plate) -> x.wayTurns(plate));
    }

    void beginsRightKnowsPlates0To5() {
        says(27, NO_PLATE);
        platesAre0To5((x, plate) -> x.beginsRight(plate));
    }
}
