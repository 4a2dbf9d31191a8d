import java.util.function.Consumer;

/** Promises 33 to 36: undo and the saved states; which calls are changes. */
public final class UndoAndSlotsTest extends Sentences {
    private static final String AT_MOST_6 = "At most 6 states are kept";
    private static final String OLDEST_DROPPED =
            "when another one is recorded, the oldest one is dropped";
    private static final String ALTERS_NOTHING =
            "first records the state, even if it alters nothing";
    private static final String NOT_OF_A_STATE =
            "The text, the slots and the history itself are not part of a state.";
    private static final String NONE_RECORDED =
            "Throws `IllegalStateException` if no state is recorded";
    private static final String NO_SLOT =
            "Throws `IndexOutOfBoundsException` if there is no such slot";
    private static final String EVERY_CHANGE =
            "Every method that is described as a change and throws no exception";
    private static final String NOTHING_SAVED =
            "Throws `IllegalStateException` if nothing was saved in it";
    private static final int[] NO_SLOTS = {-1, 2, Integer.MIN_VALUE, Integer.MAX_VALUE};

    public static void main(String[] args) {
        new UndoAndSlotsTest().run();
    }

    /** So many changes: plate 0 holds 1 / 1, 1 / 2, 1 / 3 and so on. */
    private void changes(int count) {
        for (int denominator = 1; denominator <= count; denominator++) {
            x.set(0, 1, denominator);
        }
    }

    private void undoneTo(int left, int numerator, int denominator) {
        due(left, x -> x.undo());
        due(left, x -> x.undoCount());
        holds(0, numerator, denominator);
    }

    private void nothingToUndo() {
        due(0, x -> x.undoCount());
        due("throws.IllegalStateException", x -> x.undo());
    }

    // ---- promises 33 and 34

    void undoOfANewObject() {
        says(33, NONE_RECORDED);
        nothingToUndo();
        holds(0, 0, 1);
    }

    void undoOfOneChange() {
        says(33, "Undoes the latest change.");
        changes(1);
        undoneTo(0, 0, 1);
        nothingToUndo();
        holds(0, 0, 1);
    }

    void undoGoesBackFromChangeToChange() {
        says(33, "Returns how many recorded states are left.");
        changes(3);
        undoneTo(2, 1, 2);
        undoneTo(1, 1, 1);
        undoneTo(0, 0, 1);
        nothingToUndo();
    }

    void undoOfEachPlate() {
        says(33, "Undoes the latest change.");
        for (int plate = 0; plate < 6; plate++) {
            x.set(plate, plate + 1, 7);
        }
        for (int plate = 5; plate >= 0; plate--) {
            holds(plate, plate + 1, 7);
            x.undo();
            holds(plate, 0, 1);
        }
    }

    void undoOfFiveAndSixChanges() {
        says(33, AT_MOST_6);
        changes(5);
        due(5, x -> x.undoCount());
        x.set(0, 1, 6);
        due(6, x -> x.undoCount());
        for (int left = 5; left >= 1; left--) {
            undoneTo(left, 1, left);
        }
        undoneTo(0, 0, 1);
        nothingToUndo();
    }

    void undoOfSevenChanges() {
        says(33, OLDEST_DROPPED);
        changes(7);
        for (int left = 5; left >= 0; left--) {
            undoneTo(left, 1, left + 1);
        }
        nothingToUndo();
        holds(0, 1, 1);
    }

    void undoOfManyMoreChanges() {
        says(33, OLDEST_DROPPED);
        for (int count = 8; count <= 26; count++) {
            x = new SliceShares();
            changes(count);
            for (int left = 5; left >= 0; left--) {
                undoneTo(left, 1, count - 6 + left);
            }
            nothingToUndo();
        }
    }

    void undoneStatesMakeRoom() {
        says(33, AT_MOST_6);
        changes(8);
        undoneTo(5, 1, 7);
        undoneTo(4, 1, 6);
        x.set(0, 2, 3);
        due(5, x -> x.undoCount());
        x.set(0, 2, 5);
        due(6, x -> x.undoCount());
        x.set(0, 2, 7);
        due(6, x -> x.undoCount());
        undoneTo(5, 2, 5);
        undoneTo(4, 2, 3);
        for (int left = 3; left >= 0; left--) {
            undoneTo(left, 1, left + 3);
        }
        nothingToUndo();
    }

    void undoCountFrom0To6() {
        says(34, "Returns how many changes can be undone.");
        due(0, x -> x.undoCount());
        for (int count = 1; count <= 20; count++) {
            int want = Math.min(6, count);
            x.set(0, 1, count);
            due(want, x -> x.undoCount());
        }
    }

    /** The change records the state, and alters nothing on plates that hold 1 / 2, 1 / 1 and 0. */
    private void recordsUnaltered(Consumer<SliceShares> change) {
        x = new SliceShares();
        x.set(0, 1, 2);
        x.set(1, 1, 1);
        x.saveState(0);
        change.accept(x);
        due(3, x -> x.undoCount());
        holdHalfOneAndZero();
        undoneTo(2, 1, 2);
        holdHalfOneAndZero();
        undoneTo(1, 1, 2);
        holds(1, 0, 1);
    }

    private void holdHalfOneAndZero() {
        holds(0, 1, 2);
        holds(1, 1, 1);
        holds(2, 0, 1);
    }

    void setThatAltersNothing() {
        says(33, ALTERS_NOTHING);
        recordsUnaltered(x -> x.set(0, 1, 2));
    }

    void addThatAltersNothing() {
        says(33, ALTERS_NOTHING);
        recordsUnaltered(x -> x.add(0, 2));
    }

    void takeAwayThatAltersNothing() {
        says(33, ALTERS_NOTHING);
        recordsUnaltered(x -> x.takeAway(0, 2));
    }

    void multiplyThatAltersNothing() {
        says(33, ALTERS_NOTHING);
        recordsUnaltered(x -> x.multiply(0, 1));
    }

    void copyToThatAltersNothing() {
        says(33, ALTERS_NOTHING);
        recordsUnaltered(x -> x.copyTo(0, 0));
        recordsUnaltered(x -> x.copyTo(2, 3));
    }

    void invertThatAltersNothing() {
        says(33, ALTERS_NOTHING);
        recordsUnaltered(x -> x.invert(1));
    }

    void shareThatAltersNothing() {
        says(33, ALTERS_NOTHING);
        recordsUnaltered(x -> x.share(0, 1));
        recordsUnaltered(x -> x.share(2, 100));
    }

    void roundToThatAltersNothing() {
        says(33, ALTERS_NOTHING);
        recordsUnaltered(x -> x.roundTo(0, 2));
    }

    void loadStateThatAltersNothing() {
        says(33, ALTERS_NOTHING);
        recordsUnaltered(x -> x.loadState(0));
    }

    void runTextThatAltersNothing() {
        says(33, ALTERS_NOTHING);
        recordsUnaltered(x -> {
            append(x, "c0,0");
            x.runText();
        });
        recordsUnaltered(x -> {
            append(x, "s0=1/0");
            x.runText();
        });
    }

    /** The change alters plate 0, and one state is recorded by it. */
    private void recordsAltered(int numerator, int denominator, Consumer<SliceShares> change) {
        x = new SliceShares();
        x.saveState(0);
        x.set(1, 2, 3);
        x.set(0, 3, 4);
        change.accept(x);
        due(3, x -> x.undoCount());
        holds(0, numerator, denominator);
        undoneTo(2, 3, 4);
        holds(1, 2, 3);
        undoneTo(1, 0, 1);
    }

    void eachChangeRecordsOneState() {
        says(33, EVERY_CHANGE);
        recordsAltered(1, 7, x -> x.set(0, 1, 7));
        recordsAltered(17, 12, x -> x.add(0, 1));
        recordsAltered(1, 12, x -> x.takeAway(0, 1));
        recordsAltered(1, 2, x -> x.multiply(0, 1));
        recordsAltered(2, 3, x -> x.copyTo(1, 0));
        recordsAltered(4, 3, x -> x.invert(0));
        recordsAltered(3, 8, x -> x.share(0, 2));
        recordsAltered(1, 1, x -> x.roundTo(0, 1));
        recordsAltered(0, 1, x -> x.loadState(0));
        recordsAltered(1, 9, x -> {
            append(x, "s0=1/7;s0=1/9");
            x.runText();
        });
    }

    void changesThatThrowRecordNothing() {
        says(33, EVERY_CHANGE);
        refused(ARGUMENT, x -> x.set(0, 1, 0));
        refused(STATE, x -> x.add(4, 4));
        refused(STATE, x -> x.takeAway(3, 4));
        refused(STATE, x -> x.multiply(4, 4));
        refused(INDEX, x -> x.copyTo(0, 6));
        refused(STATE, x -> x.set(0, 0, 1), x -> x.invert(0));
        refused(STATE, x -> x.share(3, 2));
        refused(ARGUMENT, x -> x.roundTo(0, 0));
        refused(STATE, x -> x.loadState(1));
        refused(STATE, x -> x.appendText('x'), x -> x.runText());
        x.set(0, 1, 2);
        due("throws.IllegalArgumentException", x -> x.set(0, 1, 0));
        due("throws.IllegalStateException", x -> x.loadState(0));
        due(1, x -> x.undoCount());
    }

    void whatIsNoChangeRecordsNothing() {
        says(33, EVERY_CHANGE);
        leavesAll(x -> x.numeratorOf(0));
        leavesAll(x -> x.denominatorOf(0));
        leavesAll(x -> x.compare(0, 1));
        leavesAll(x -> x.plateByAmount(0));
        leavesAll(x -> x.commonParts());
        leavesAll(x -> x.differentFractions());
        leavesAll(x -> x.termCount(0));
        leavesAll(x -> x.termAt(0, 0));
        leavesAll(x -> x.beginningNumerator(0, 0));
        leavesAll(x -> x.beginningDenominator(0, 0));
        leavesAll(x -> x.nearestDenominator(0, 3));
        leavesAll(x -> x.nearestByTrying(0, 3));
        leavesAll(x -> x.nearestNumerator(0, 3));
        leavesAll(x -> x.unitCount(0));
        leavesAll(x -> x.unitAt(0, 0));
        leavesAll(x -> x.waySteps(0));
        leavesAll(x -> x.wayTurns(0));
        leavesAll(x -> x.beginsRight(0));
        leavesAll(x -> x.textLength());
        leavesAll(x -> x.textError());
        leavesAll(x -> x.undoCount());
    }

    void textIsNotUndone() {
        says(33, NOT_OF_A_STATE);
        append(x, "s0=");
        x.set(0, 1, 2);
        append(x, "1/3");
        undoneTo(0, 0, 1);
        due(6, x -> x.textLength());
        due(1, x -> x.runText());
        holds(0, 1, 3);
    }

    void clearedTextIsNotUndone() {
        says(33, NOT_OF_A_STATE);
        append(x, "s0=1/3");
        x.set(0, 1, 2);
        x.clearText();
        undoneTo(0, 0, 1);
        due(0, x -> x.textLength());
    }

    void textThatWasRunStaysEmpty() {
        says(33, NOT_OF_A_STATE);
        append(x, "s0=1/3");
        x.runText();
        undoneTo(0, 0, 1);
        due(0, x -> x.textLength());
        due(0, x -> x.textError());
    }

    void textCallsAreNoChanges() {
        says(33, NOT_OF_A_STATE);
        x.appendText('s');
        due(0, x -> x.undoCount());
        x.clearText();
        nothingToUndo();
    }

    void slotsAreNotUndone() {
        says(33, NOT_OF_A_STATE);
        x.set(0, 1, 2);
        x.saveState(0);
        undoneTo(0, 0, 1);
        due(1, x -> x.loadState(0));
        holds(0, 1, 2);
    }

    void slotsThatWereReplacedAreNotUndone() {
        says(33, NOT_OF_A_STATE);
        x.saveState(0);
        x.set(0, 1, 2);
        x.saveState(0);
        x.set(0, 1, 3);
        undoneTo(1, 1, 2);
        undoneTo(0, 0, 1);
        x.loadState(0);
        holds(0, 1, 2);
    }

    void undoIsNotUndone() {
        says(33, NOT_OF_A_STATE);
        changes(3);
        undoneTo(2, 1, 2);
        undoneTo(1, 1, 1);
        x.set(0, 1, 9);
        due(2, x -> x.undoCount());
        undoneTo(1, 1, 1);
        undoneTo(0, 0, 1);
    }

    void loadedStateBringsNoHistory() {
        says(33, NOT_OF_A_STATE);
        changes(2);
        x.saveState(0);
        changes(3);
        due(5, x -> x.undoCount());
        x.loadState(0);
        due(6, x -> x.undoCount());
        holds(0, 1, 2);
        undoneTo(5, 1, 3);
        undoneTo(4, 1, 2);
    }

    void loadedStateBringsNoText() {
        says(33, NOT_OF_A_STATE);
        append(x, "s0=1/3");
        x.saveState(0);
        x.clearText();
        append(x, "c0");
        x.loadState(0);
        due(2, x -> x.textLength());
    }

    void loadedStateBringsNoSlots() {
        says(33, NOT_OF_A_STATE);
        x.set(0, 1, 2);
        x.saveState(0);
        x.set(0, 1, 3);
        x.saveState(1);
        x.loadState(0);
        holds(0, 1, 2);
        x.loadState(1);
        holds(0, 1, 3);
    }

    // ---- promises 35 and 36

    void saveStateTells0To6PlatesThatAreNot0() {
        says(35, "Returns how many plates are not 0.");
        due(0, x -> x.saveState(0));
        for (int plate = 0; plate < 6; plate++) {
            int count = plate + 1;
            x.set(plate, 1, 1000000);
            due(count, x -> x.saveState(0));
        }
        x.set(0, 0, 7);
        due(5, x -> x.saveState(1));
        x.takeAway(5, 5);
        due(4, x -> x.saveState(1));
    }

    void saveStateReplacesWhatWasSaved() {
        says(35, "Saves the state in a slot and replaces what was saved there.");
        x.set(0, 1, 2);
        x.set(1, 1, 3);
        x.saveState(1);
        x.set(0, 1, 5);
        x.set(1, 0, 1);
        x.saveState(1);
        x.set(0, 1, 7);
        due(1, x -> x.loadState(1));
        holds(0, 1, 5);
        holds(1, 0, 1);
    }

    void saveStateSavesEachPlate() {
        says(35, "Saves the state in a slot");
        for (int plate = 0; plate < 6; plate++) {
            x.set(plate, plate + 1, 7);
        }
        x.saveState(0);
        for (int plate = 0; plate < 6; plate++) {
            x.set(plate, 1, 100 + plate);
        }
        x.saveState(1);
        x.loadState(0);
        for (int plate = 0; plate < 6; plate++) {
            holds(plate, plate + 1, 7);
        }
        x.loadState(1);
        for (int plate = 0; plate < 6; plate++) {
            holds(plate, 1, 100 + plate);
        }
    }

    void saveStateIsNoChange() {
        says(35, "Saves the state in a slot and replaces what was saved there.");
        x.set(0, 1, 2);
        x.saveState(0);
        x.saveState(1);
        due(1, x -> x.undoCount());
        holds(0, 1, 2);
    }

    void saveStateInSlots0And1() {
        says(35, "`slot`: 0 or 1");
        x.set(0, 1, 2);
        due(1, x -> x.saveState(0));
        x.set(1, 1, 2);
        due(2, x -> x.saveState(1));
        due(1, x -> x.loadState(0));
        due(2, x -> x.loadState(1));
    }

    void saveStateInNoSlot() {
        says(35, NO_SLOT);
        for (int slot : NO_SLOTS) {
            refused(INDEX, x -> x.saveState(slot));
        }
    }

    void loadStateTells0To6PlatesThatAreNot0() {
        says(36, "Returns how many plates are not 0 afterwards.");
        x.saveState(0);
        for (int plate = 0; plate < 6; plate++) {
            x.set(plate, 1, 1000000);
        }
        x.saveState(1);
        due(0, x -> x.loadState(0));
        due(6, x -> x.loadState(1));
        holds(5, 1, 1000000);
        due(0, x -> x.loadState(0));
        holds(5, 0, 1);
    }

    void loadStateKeepsTheSlot() {
        says(36, "the slot keeps it");
        x.set(0, 1, 2);
        x.saveState(0);
        for (int times = 1; times <= 3; times++) {
            x.set(0, 1, 3);
            due(1, x -> x.loadState(0));
            holds(0, 1, 2);
        }
    }

    void loadStateIsAChange() {
        says(36, "This is a change.");
        x.saveState(1);
        changes(6);
        x.loadState(1);
        due(6, x -> x.undoCount());
        holds(0, 0, 1);
        undoneTo(5, 1, 6);
        undoneTo(4, 1, 5);
    }

    void loadStateOfSlots0And1() {
        says(36, "`slot`: 0 or 1");
        x.set(0, 1, 2);
        x.saveState(0);
        x.set(0, 1, 3);
        x.saveState(1);
        x.loadState(0);
        holds(0, 1, 2);
        x.loadState(1);
        holds(0, 1, 3);
    }

    void loadStateOfNoSlot() {
        says(36, NO_SLOT);
        for (int slot : NO_SLOTS) {
            refused(INDEX, x -> x.loadState(slot));
        }
    }

    void loadStateOfASlotInWhichNothingWasSaved() {
        says(36, NOTHING_SAVED);
        refused(STATE, x -> x.loadState(1));
        due("throws.IllegalStateException", x -> x.loadState(0));
        due("throws.IllegalStateException", x -> x.loadState(1));
        x.saveState(1);
        due("throws.IllegalStateException", x -> x.loadState(0));
        due(0, x -> x.loadState(1));
        x = new SliceShares();
        x.saveState(0);
        due("throws.IllegalStateException", x -> x.loadState(1));
        due(0, x -> x.loadState(0));
    }

    void loadStateOfASlotInWhichZerosWereSaved() {
        says(36, NOTHING_SAVED);
        x.saveState(0);
        x.set(0, 1, 2);
        due(0, x -> x.loadState(0));
        holds(0, 0, 1);
    }
}
