/** Each promise with ordinary inputs, the document's edges, and wrong inputs. */
public final class PromisesTest {
    private static final Class<IndexOutOfBoundsException> INDEX = IndexOutOfBoundsException.class;
    private static final Class<IllegalArgumentException> ARGUMENT = IllegalArgumentException.class;
    private static final Class<IllegalStateException> STATE = IllegalStateException.class;
    private static final int[] NO_PLATES = {-1, 6, Integer.MIN_VALUE, Integer.MAX_VALUE};
    private static final int[] NO_LIMITS = {0, -1, 1001, Integer.MIN_VALUE, Integer.MAX_VALUE};

    private final Checks checks = new Checks();
    private SliceShares x;
    private int promise;

    public static void main(String[] args) {
        PromisesTest test = new PromisesTest();
        test.changes();
        test.plates();
        test.continuedFractions();
        test.unitsAndTree();
        test.text();
        test.undoAndSlots();
        test.checks.end();
    }

    private void changes() {
        newObject();
        set();
        add();
        takeAway();
        multiply();
        copyTo();
        invert();
        share();
        roundTo();
    }

    private void plates() {
        numeratorAndDenominator();
        compare();
        plateByAmount();
        commonParts();
        differentFractions();
    }

    private void continuedFractions() {
        termCount();
        termAt();
        beginnings();
        nearest();
        nearestTwoWays();
    }

    private void unitsAndTree() {
        unitCount();
        unitAt();
        waySteps();
        wayTurns();
        beginsRight();
    }

    private void text() {
        appendText();
        clearTextAndLength();
        textError();
        runText();
    }

    private void undoAndSlots() {
        undo();
        undoOfEachChange();
        slots();
    }

    // ---- how a promise is asked

    private void fresh(int number) {
        promise = number;
        x = new SliceShares();
    }

    private void due(String call, Object want, Checks.Call asked) {
        checks.answers("promise " + promise + ": " + call, want, asked);
    }

    private void refused(String call, Class<? extends RuntimeException> type, Checks.Call asked) {
        checks.refuses("promise " + promise + ": " + call, type, x, asked);
    }

    private void holds(int plate, int numerator, int denominator) {
        due("numeratorOf(" + plate + ")", numerator, () -> x.numeratorOf(plate));
        due("denominatorOf(" + plate + ")", denominator, () -> x.denominatorOf(plate));
    }

    private void type(String commands) {
        for (int at = 0; at < commands.length(); at += 8) {
            x.appendText(packed(commands.substring(at, Math.min(commands.length(), at + 8))));
        }
    }

    private static long packed(String text) {
        long packed = 0;
        for (int i = 0; i < text.length(); i++) {
            packed = packed << 8 | text.charAt(i);
        }
        return packed;
    }

    // ---- changes

    private void newObject() {
        fresh(1);
        for (int plate = 0; plate < 6; plate++) {
            holds(plate, 0, 1);
        }
        due("undoCount()", 0, () -> x.undoCount());
        due("textLength()", 0, () -> x.textLength());
        refused("loadState(0)", STATE, () -> x.loadState(0));
        refused("loadState(1)", STATE, () -> x.loadState(1));
        SliceShares other = new SliceShares();
        other.set(0, 1, 2);
        other.appendText('s');
        holds(0, 0, 1);
        due("textLength() of another object", 0, () -> x.textLength());
    }

    private void set() {
        fresh(2);
        due("set(0, 6, 8)", 4, () -> x.set(0, 6, 8));
        holds(0, 3, 4);
        due("set(0, 1, 3)", 3, () -> x.set(0, 1, 3));
        holds(0, 1, 3);
        due("set(5, 1000000, 1000000)", 1, () -> x.set(5, 1000000, 1000000));
        holds(5, 1, 1);
        due("set(5, 0, 1000000)", 1, () -> x.set(5, 0, 1000000));
        holds(5, 0, 1);
        due("set(1, 1000000, 1)", 1, () -> x.set(1, 1000000, 1));
        holds(1, 1000000, 1);
        due("set(1, 1, 1000000)", 1000000, () -> x.set(1, 1, 1000000));
        holds(1, 1, 1000000);
        due("set(1, 1000000, 999999)", 999999, () -> x.set(1, 1000000, 999999));
        holds(1, 1000000, 999999);
        for (int plate : NO_PLATES) {
            refused("set at no plate", INDEX, () -> x.set(plate, 1, 2));
            refused("set at no plate, wrong number", INDEX, () -> x.set(plate, -1, 0));
        }
        for (int wrong : new int[] {-1, 1000001, Integer.MIN_VALUE, Integer.MAX_VALUE}) {
            refused("set(0, " + wrong + ", 1)", ARGUMENT, () -> x.set(0, wrong, 1));
            refused("set(0, 1, " + wrong + ")", ARGUMENT, () -> x.set(0, 1, wrong));
        }
        refused("set(0, 1, 0)", ARGUMENT, () -> x.set(0, 1, 0));
        refused("set(0, 0, 0)", ARGUMENT, () -> x.set(0, 0, 0));
        refused("set(0, 2000000, 2000000)", ARGUMENT, () -> x.set(0, 2000000, 2000000));
    }

    private void add() {
        fresh(3);
        x.set(0, 1, 6);
        x.set(1, 1, 3);
        due("add(0, 1)", 2, () -> x.add(0, 1));
        holds(0, 1, 2);
        holds(1, 1, 3);
        due("add(1, 1), of a plate to itself", 3, () -> x.add(1, 1));
        holds(1, 2, 3);
        due("add(1, 5)", 3, () -> x.add(1, 5));
        holds(1, 2, 3);
        x.set(2, 999999, 1);
        x.set(3, 1, 1);
        due("add(2, 3)", 1, () -> x.add(2, 3));
        holds(2, 1000000, 1);
        refused("add(2, 3), a numerator too great", STATE, () -> x.add(2, 3));
        refused("add(2, 2)", STATE, () -> x.add(2, 2));
        x.set(4, 1, 1000);
        x.set(5, 1, 999);
        due("add(4, 5)", 999000, () -> x.add(4, 5));
        holds(4, 1999, 999000);
        x.set(4, 1, 1000);
        x.set(5, 1, 1001);
        refused("add(4, 5), a denominator too great", STATE, () -> x.add(4, 5));
        x.set(4, 1, 1000000);
        x.set(5, 999999, 1000000);
        due("add(4, 5), less in lowest terms", 1, () -> x.add(4, 5));
        holds(4, 1, 1);
        refusedForPlates("add", x::add);
    }

    private interface OnTwoPlates {
        Object call(int plate, int other);
    }

    private interface OnOnePlate {
        Object call(int plate);
    }

    private void refusedForPlates(String name, OnTwoPlates asked) {
        for (int plate : NO_PLATES) {
            refused(name + "(" + plate + ", 0)", INDEX, () -> asked.call(plate, 0));
            refused(name + "(0, " + plate + ")", INDEX, () -> asked.call(0, plate));
            refused(name + " of it", INDEX, () -> asked.call(plate, plate));
        }
    }

    private void refusedForPlate(String name, OnOnePlate asked) {
        for (int plate : NO_PLATES) {
            refused(name + "(" + plate + ")", INDEX, () -> asked.call(plate));
        }
    }

    private void takeAway() {
        fresh(4);
        x.set(0, 1, 2);
        x.set(1, 1, 6);
        due("takeAway(0, 1)", 3, () -> x.takeAway(0, 1));
        holds(0, 1, 3);
        holds(1, 1, 6);
        due("takeAway(1, 5)", 6, () -> x.takeAway(1, 5));
        refused("takeAway(1, 0), less", STATE, () -> x.takeAway(1, 0));
        due("takeAway(0, 0)", 1, () -> x.takeAway(0, 0));
        holds(0, 0, 1);
        refused("takeAway(0, 1), 0 is less", STATE, () -> x.takeAway(0, 1));
        x.set(2, 1, 999999);
        x.set(3, 1, 1000000);
        refused("takeAway(2, 3), a denominator too great", STATE, () -> x.takeAway(2, 3));
        refused("takeAway(3, 2), less and too great", STATE, () -> x.takeAway(3, 2));
        x.set(2, 2000, 3);
        x.set(3, 1, 999);
        due("takeAway(2, 3)", 999, () -> x.takeAway(2, 3));
        holds(2, 665999, 999);
        x.set(2, 1000000, 3);
        refused("takeAway(2, 3), a numerator too great", STATE, () -> x.takeAway(2, 3));
        refusedForPlates("takeAway", x::takeAway);
    }

    private void multiply() {
        fresh(5);
        x.set(0, 4, 9);
        x.set(1, 3, 8);
        due("multiply(0, 1)", 6, () -> x.multiply(0, 1));
        holds(0, 1, 6);
        holds(1, 3, 8);
        due("multiply(1, 1)", 64, () -> x.multiply(1, 1));
        holds(1, 9, 64);
        due("multiply(1, 5), by 0", 1, () -> x.multiply(1, 5));
        holds(1, 0, 1);
        x.set(2, 1000, 1);
        due("multiply(2, 2)", 1, () -> x.multiply(2, 2));
        holds(2, 1000000, 1);
        refused("multiply(2, 2), a numerator too great", STATE, () -> x.multiply(2, 2));
        x.set(3, 1, 1000);
        due("multiply(3, 3)", 1000000, () -> x.multiply(3, 3));
        holds(3, 1, 1000000);
        x.set(4, 1, 2);
        refused("multiply(3, 4), a denominator too great", STATE, () -> x.multiply(3, 4));
        due("multiply(3, 2), 1 in lowest terms", 1, () -> x.multiply(3, 2));
        holds(3, 1, 1);
        refusedForPlates("multiply", x::multiply);
    }

    private void copyTo() {
        fresh(6);
        x.set(0, 3, 4);
        due("copyTo(0, 1)", false, () -> x.copyTo(0, 1));
        holds(0, 3, 4);
        holds(1, 3, 4);
        due("copyTo(0, 1) again", true, () -> x.copyTo(0, 1));
        due("copyTo(0, 0)", true, () -> x.copyTo(0, 0));
        due("undoCount()", 4, () -> x.undoCount());
        x.set(2, 3, 5);
        due("copyTo(2, 0), the same numerator", false, () -> x.copyTo(2, 0));
        holds(0, 3, 5);
        holds(2, 3, 5);
        x.set(3, 0, 7);
        due("copyTo(3, 4), both 0", true, () -> x.copyTo(3, 4));
        refusedForPlates("copyTo", x::copyTo);
    }

    private void invert() {
        fresh(7);
        x.set(0, 3, 4);
        due("invert(0)", 3, () -> x.invert(0));
        holds(0, 4, 3);
        due("invert(0)", 4, () -> x.invert(0));
        holds(0, 3, 4);
        x.set(1, 1000000, 1);
        due("invert(1)", 1000000, () -> x.invert(1));
        holds(1, 1, 1000000);
        refusedAtZero("invert", x::invert);
    }

    private void share() {
        fresh(8);
        x.set(0, 3, 4);
        due("share(0, 2)", 8, () -> x.share(0, 2));
        holds(0, 3, 8);
        due("share(0, 3)", 8, () -> x.share(0, 3));
        holds(0, 1, 8);
        due("share(0, 1)", 8, () -> x.share(0, 1));
        due("share(5, 100), 0", 1, () -> x.share(5, 100));
        holds(5, 0, 1);
        x.set(1, 1, 10000);
        due("share(1, 100)", 1000000, () -> x.share(1, 100));
        holds(1, 1, 1000000);
        refused("share(1, 2), too great", STATE, () -> x.share(1, 2));
        refused("share(1, 0)", ARGUMENT, () -> x.share(1, 0));
        refused("share(1, 101), too great as well", ARGUMENT, () -> x.share(1, 101));
        refused("share(1, -1)", ARGUMENT, () -> x.share(1, -1));
        refused("share(1, greatest int)", ARGUMENT, () -> x.share(1, Integer.MAX_VALUE));
        refusedForPlate("share of 0 guests", plate -> x.share(plate, 0));
        refusedForPlate("share", plate -> x.share(plate, 1));
    }

    private void roundTo() {
        fresh(9);
        x.set(0, 355, 113);
        due("roundTo(0, 100)", 99, () -> x.roundTo(0, 100));
        holds(0, 311, 99);
        due("roundTo(0, 7)", 7, () -> x.roundTo(0, 7));
        holds(0, 22, 7);
        due("roundTo(0, 1)", 1, () -> x.roundTo(0, 1));
        holds(0, 3, 1);
        due("roundTo(0, 1000)", 1, () -> x.roundTo(0, 1000));
        due("undoCount()", 5, () -> x.undoCount());
        x.set(1, 1, 2);
        due("roundTo(1, 1), as near to 0 as to 1", 1, () -> x.roundTo(1, 1));
        holds(1, 0, 1);
        for (int wrong : NO_LIMITS) {
            refused("roundTo(0, " + wrong + ")", ARGUMENT, () -> x.roundTo(0, wrong));
            refusedForPlate("roundTo a wrong limit", plate -> x.roundTo(plate, wrong));
        }
        refusedForPlate("roundTo", plate -> x.roundTo(plate, 1));
    }

    // ---- plates

    private void numeratorAndDenominator() {
        fresh(10);
        x.set(3, 10, 4);
        due("numeratorOf(3)", 5, () -> x.numeratorOf(3));
        due("numeratorOf(5)", 0, () -> x.numeratorOf(5));
        refusedForPlate("numeratorOf", x::numeratorOf);
        promise = 11;
        due("denominatorOf(3)", 2, () -> x.denominatorOf(3));
        due("denominatorOf(5)", 1, () -> x.denominatorOf(5));
        refusedForPlate("denominatorOf", x::denominatorOf);
    }

    private void compare() {
        fresh(12);
        x.set(0, 1, 3);
        x.set(1, 1, 2);
        x.set(2, 2, 6);
        due("compare(0, 1)", -1, () -> x.compare(0, 1));
        due("compare(1, 0)", 1, () -> x.compare(1, 0));
        due("compare(0, 2)", 0, () -> x.compare(0, 2));
        due("compare(1, 1)", 0, () -> x.compare(1, 1));
        due("compare(5, 0)", -1, () -> x.compare(5, 0));
        x.set(3, 999998, 999999);
        x.set(4, 999999, 1000000);
        due("compare(3, 4)", -1, () -> x.compare(3, 4));
        due("compare(4, 3)", 1, () -> x.compare(4, 3));
        refusedForPlates("compare", x::compare);
    }

    private void plateByAmount() {
        fresh(13);
        for (int place = 0; place < 6; place++) {
            int all = place;
            due("plateByAmount(" + place + "), all the same", all, () -> x.plateByAmount(all));
        }
        x.set(1, 1, 3);
        x.set(2, 7, 2);
        x.set(4, 1, 3);
        x.set(5, 1, 2);
        int[] order = {2, 5, 1, 4, 0, 3};
        for (int place = 0; place < 6; place++) {
            int asked = place;
            due("plateByAmount(" + place + ")", order[place], () -> x.plateByAmount(asked));
        }
        refusedForPlate("plateByAmount", x::plateByAmount);
    }

    private void commonParts() {
        fresh(14);
        due("commonParts()", 1L, () -> x.commonParts());
        x.set(0, 5, 4);
        x.set(1, 1, 6);
        due("commonParts()", 12L, () -> x.commonParts());
        x.set(2, 1, 9);
        due("commonParts()", 36L, () -> x.commonParts());
        x.set(0, 1, 1000000);
        x.set(1, 1, 999999);
        x.set(2, 1, 1001);
        due("commonParts(), 1001 divides 999999", 999999000000L, () -> x.commonParts());
        x = new SliceShares();
        x.set(5, 1, 7);
        due("commonParts(), the last plate", 7L, () -> x.commonParts());
        commonPartsAtTheLimit();
    }

    private void commonPartsAtTheLimit() {
        x.set(0, 4, 599 * 4);
        x.set(1, 1, 2131);
        x.set(2, 1, 3733);
        x.set(5, 1, 209861);
        due("commonParts(), 3 below the limit", 999999999999997L, () -> x.commonParts());
        x.set(0, 1, 211211);
        x.set(1, 1, 520801);
        x.set(2, 1, 9091);
        x.set(5, 0, 1);
        due("commonParts(), 1 above the limit", -1L, () -> x.commonParts());
        x.set(0, 1, 999983);
        x.set(1, 1, 999979);
        x.set(2, 1, 999961);
        x.set(3, 1, 999959);
        x.set(4, 1, 999953);
        x.set(5, 1, 999931);
        due("commonParts(), far above the limit", -1L, () -> x.commonParts());
    }

    private void differentFractions() {
        fresh(15);
        due("differentFractions()", 1, () -> x.differentFractions());
        x.set(3, 0, 7);
        due("differentFractions(), 0 in other words", 1, () -> x.differentFractions());
        x.set(5, 1, 2);
        due("differentFractions()", 2, () -> x.differentFractions());
        x.set(0, 2, 4);
        x.set(1, 1, 3);
        due("differentFractions()", 3, () -> x.differentFractions());
        x.set(2, 2, 3);
        x.set(3, 3, 2);
        x.set(4, 4, 3);
        due("differentFractions()", 5, () -> x.differentFractions());
        x.set(5, 5, 3);
        due("differentFractions()", 6, () -> x.differentFractions());
    }

    // ---- continued fractions

    private void termCount() {
        fresh(16);
        due("termCount(0), 0", 1, () -> x.termCount(0));
        x.set(0, 7, 1);
        due("termCount(0), 7", 1, () -> x.termCount(0));
        x.set(0, 1, 7);
        due("termCount(0), 1 / 7", 2, () -> x.termCount(0));
        x.set(0, 355, 113);
        due("termCount(0), 355 / 113", 3, () -> x.termCount(0));
        x.set(0, 514229, 832040);
        due("termCount(0), the most", 29, () -> x.termCount(0));
        refusedForPlate("termCount", x::termCount);
    }

    private void terms(int plate, int... terms) {
        for (int i = 0; i < terms.length; i++) {
            int term = i;
            due("termAt(" + plate + ", " + i + ")", terms[i], () -> x.termAt(plate, term));
        }
        refused("termAt behind the last", INDEX, () -> x.termAt(plate, terms.length));
    }

    private void termAt() {
        fresh(17);
        terms(0, 0);
        x.set(0, 355, 113);
        terms(0, 3, 7, 16);
        x.set(1, 113, 355);
        terms(1, 0, 3, 7, 16);
        x.set(2, 1000000, 1);
        terms(2, 1000000);
        x.set(3, 1000000, 999999);
        terms(3, 1, 999999);
        x.set(4, 1, 1000000);
        terms(4, 0, 1000000);
        x.set(5, 514229, 832040);
        due("termAt(5, 28)", 2, () -> x.termAt(5, 28));
        due("termAt(5, 27)", 1, () -> x.termAt(5, 27));
        refusedForTerms("termAt", x::termAt, 29);
    }

    private void refusedForTerms(String name, OnTwoPlates asked, int count) {
        for (int term : new int[] {-1, count, 40, 64, Integer.MIN_VALUE, Integer.MAX_VALUE}) {
            refused(name + " of term " + term, INDEX, () -> asked.call(5, term));
        }
        refusedForPlate(name, plate -> asked.call(plate, 0));
    }

    private void beginnings() {
        fresh(18);
        x.set(5, 355, 113);
        int[] numerators = {3, 22, 355};
        int[] denominators = {1, 7, 113};
        for (int i = 0; i < 3; i++) {
            int term = i;
            promise = 18;
            due("beginningNumerator(5, " + i + ")", numerators[i],
                    () -> x.beginningNumerator(5, term));
            promise = 19;
            due("beginningDenominator(5, " + i + ")", denominators[i],
                    () -> x.beginningDenominator(5, term));
        }
        due("beginningDenominator(0, 0)", 1, () -> x.beginningDenominator(0, 0));
        refusedForTerms("beginningDenominator", x::beginningDenominator, 3);
        x.set(4, 514229, 832040);
        due("beginningDenominator(4, 27)", 317811, () -> x.beginningDenominator(4, 27));
        due("beginningDenominator(4, 28)", 832040, () -> x.beginningDenominator(4, 28));
        promise = 18;
        due("beginningNumerator(4, 0)", 0, () -> x.beginningNumerator(4, 0));
        due("beginningNumerator(4, 27)", 196418, () -> x.beginningNumerator(4, 27));
        due("beginningNumerator(4, 28)", 514229, () -> x.beginningNumerator(4, 28));
        due("beginningNumerator(0, 0)", 0, () -> x.beginningNumerator(0, 0));
        refusedForTerms("beginningNumerator", x::beginningNumerator, 3);
    }

    private void nearest(int numerator, int denominator, int greatest, int wantN, int wantD) {
        x.set(0, numerator, denominator);
        String of = "(0, " + greatest + ") of " + numerator + " / " + denominator;
        promise = 20;
        due("nearestDenominator" + of, wantD, () -> x.nearestDenominator(0, greatest));
        promise = 21;
        due("nearestByTrying" + of, wantD, () -> x.nearestByTrying(0, greatest));
        promise = 22;
        due("nearestNumerator" + of, wantN, () -> x.nearestNumerator(0, greatest));
    }

    private void nearest() {
        fresh(20);
        nearest(0, 1, 1, 0, 1);
        nearest(0, 1, 1000, 0, 1);
        nearest(355, 113, 113, 355, 113);
        nearest(355, 113, 112, 333, 106);
        nearest(355, 113, 100, 311, 99);
        nearest(355, 113, 7, 22, 7);
        nearest(355, 113, 6, 19, 6);
        nearest(355, 113, 1, 3, 1);
        nearest(1, 2, 1, 0, 1);
        nearest(3, 2, 1, 1, 1);
        nearest(2, 3, 1, 1, 1);
        nearest(2, 3, 2, 1, 2);
        // 1 / 3 and 1 / 2 lie as near to 5 / 12; 2 / 5 is nearer.
        nearest(5, 12, 3, 1, 2);
        nearest(5, 12, 5, 2, 5);
        nearest(1000000, 1, 1000, 1000000, 1);
        nearest(1000000, 999999, 1000, 1, 1);
        nearest(999999, 1000000, 1000, 1, 1);
        nearest(1, 1000000, 1000, 0, 1);
        nearest(1, 2000, 1000, 0, 1);
        nearest(1, 1999, 1000, 1, 1000);
        nearest(999999, 2, 1, 499999, 1);
        refusedForLimits(20, "nearestDenominator", x::nearestDenominator);
        refusedForLimits(21, "nearestByTrying", x::nearestByTrying);
        refusedForLimits(22, "nearestNumerator", x::nearestNumerator);
    }

    private void refusedForLimits(int number, String name, OnTwoPlates asked) {
        promise = number;
        for (int limit : NO_LIMITS) {
            refused(name + " to " + limit, ARGUMENT, () -> asked.call(0, limit));
            refusedForPlate(name + " to a wrong limit", plate -> asked.call(plate, limit));
        }
        refusedForPlate(name, plate -> asked.call(plate, 1));
    }

    /** All small fractions and limits, where many lie as near on both sides. */
    private void nearestTwoWays() {
        for (int denominator = 1; denominator <= 40; denominator++) {
            x = new SliceShares();
            Model model = new Model();
            for (int numerator = 0; numerator <= 2 * denominator; numerator++) {
                x.set(0, numerator, denominator);
                model.set(0, numerator, denominator);
                for (int limit = 1; limit <= 41; limit++) {
                    nearest(numerator, denominator, limit, model.nearestNumerator(0, limit),
                            model.nearestDenominator(0, limit));
                }
            }
        }
    }

    // ---- units and the tree

    private void units(int numerator, int denominator, int count, int... units) {
        x.set(0, numerator, denominator);
        String of = " of " + numerator + " / " + denominator;
        promise = 23;
        due("unitCount(0)" + of, count, () -> x.unitCount(0));
        promise = 24;
        for (int i = 0; i < 4; i++) {
            int unit = i;
            due("unitAt(0, " + i + ")" + of, i < units.length ? units[i] : -1,
                    () -> x.unitAt(0, unit));
        }
    }

    private void unitCount() {
        fresh(23);
        units(0, 1, 0);
        units(1, 2, 1, 2);
        units(3, 4, 2, 2, 4);
        units(4, 17, 4, 5, 29, 1233, 3039345);
        units(5, 121, -1, 25, 757, 763309);
        units(999999, 1000000, -1, 2, 3, 7, 43);
        units(1, 1000000, 1, 1000000);
        units(2, 999999, -1, 500000);
        units(16, 17, 5, 2, 3, 10, 128);
        units(30, 31, 6, 2, 3, 8, 107);
        units(1000, 999999, 2, 1000, 999999000);
        units(999, 999998, -1, 1001);
        // On the way to a fifth one the denominator would not fit into a long.
        units(49, 459, -1, 10, 149, 23584, 620358979);
        units(41, 422, -1, 11, 161, 27681, 827509101);
        units(39, 398, -1, 11, 142, 25904, 805194756);
        // The third one is just as great as it may be, and a fourth one is not.
        units(5585, 661518, -1, 119, 25419, 1000000000);
        units(192457, 999001, -1, 6, 39, 2926);
        promise = 23;
        x.set(1, 1, 1);
        x.set(2, 1000000, 999999);
        refused("unitCount(1), 1", STATE, () -> x.unitCount(1));
        refused("unitCount(2), above 1", STATE, () -> x.unitCount(2));
        refusedForPlate("unitCount", x::unitCount);
    }

    private void unitAt() {
        fresh(24);
        x.set(0, 3, 4);
        x.set(1, 1, 1);
        for (int unit : new int[] {-1, 4, 5, Integer.MIN_VALUE, Integer.MAX_VALUE}) {
            refused("unitAt(0, " + unit + ")", INDEX, () -> x.unitAt(0, unit));
            refused("unitAt(1, " + unit + "), 1", INDEX, () -> x.unitAt(1, unit));
        }
        for (int unit = 0; unit < 4; unit++) {
            int asked = unit;
            refused("unitAt(1, " + unit + "), 1", STATE, () -> x.unitAt(1, asked));
            refusedForPlate("unitAt", plate -> x.unitAt(plate, asked));
        }
    }

    private void way(int numerator, int denominator, int steps, int turns, boolean right) {
        x.set(3, numerator, denominator);
        String of = " of " + numerator + " / " + denominator;
        promise = 25;
        due("waySteps(3)" + of, steps, () -> x.waySteps(3));
        promise = 26;
        due("wayTurns(3)" + of, turns, () -> x.wayTurns(3));
        promise = 27;
        due("beginsRight(3)" + of, right, () -> x.beginsRight(3));
    }

    private void refusedAtZero(String name, OnOnePlate asked) {
        refused(name + " of 0", STATE, () -> asked.call(5));
        x.set(5, 1, 2);
        x.takeAway(5, 5);
        refused(name + " of 0, taken away", STATE, () -> asked.call(5));
        x.set(5, 0, 7);
        refused(name + " of 0, set", STATE, () -> asked.call(5));
        refusedForPlate(name, asked);
    }

    private void waySteps() {
        fresh(25);
        way(1, 1, 0, 0, false);
        way(2, 1, 1, 0, true);
        way(1, 2, 1, 0, false);
        way(3, 2, 2, 1, true);
        way(2, 3, 2, 1, false);
        way(5, 2, 3, 1, true);
        way(5, 3, 3, 2, true);
        way(3, 5, 3, 2, false);
        way(355, 113, 25, 2, true);
        way(113, 355, 25, 2, false);
        way(1000000, 1, 999999, 0, true);
        way(1, 1000000, 999999, 0, false);
        way(1000000, 999999, 999999, 1, true);
        way(999999, 1000000, 999999, 1, false);
        way(514229, 832040, 28, 27, false);
        promise = 25;
        refusedAtZero("waySteps", x::waySteps);
    }

    private void wayTurns() {
        fresh(26);
        x.set(0, 355, 113);
        x.set(1, 7, 1);
        due("wayTurns(1)", 0, () -> x.wayTurns(1));
        due("wayTurns(0), asked behind another plate", 2, () -> x.wayTurns(0));
        due("wayTurns(1), asked behind another plate", 0, () -> x.wayTurns(1));
        refusedAtZero("wayTurns", x::wayTurns);
    }

    private void beginsRight() {
        fresh(27);
        refusedAtZero("beginsRight", x::beginsRight);
    }

    // ---- the text

    private void appendText() {
        fresh(28);
        due("appendText of +0,1", 4, () -> x.appendText(0x2B302C31L));
        due("textError(), so it is +0,1", -1, () -> x.textError());
        due("appendText of ;", 5, () -> x.appendText(';'));
        due("appendText of 8 characters", 13, () -> x.appendText(packed("s1=10/20")));
        due("runText()", 2, () -> x.runText());
        holds(1, 1, 2);
        due("appendText of the least code", 1, () -> x.appendText(33));
        due("appendText of the greatest code", 2, () -> x.appendText(126));
        due("appendText of both", 4, () -> x.appendText(33 << 8 | 126));
        for (long wrong : new long[] {
            0, -1, 32, 127, 255, 128, 1, 256, 's' << 8, (long) 's' << 56, 's' << 16 | '0',
            32 << 8 | 's', 127 << 8 | 's', 's' << 8 | 32, 's' << 8 | 127, Long.MIN_VALUE,
            Long.MAX_VALUE, packed("s1=10/20") & ~255L, packed("s1=10/20") | 1L << 63,
            packed("s1=10/20") & ~(255L << 24), 1L << 56 | 's', 1L << 63 | packed("1=10/20")}) {
            refused("appendText(" + wrong + ")", ARGUMENT, () -> x.appendText(wrong));
        }
        appendToTheLimit();
    }

    private void appendToTheLimit() {
        x = new SliceShares();
        for (int length = 8; length <= 72; length += 8) {
            x.appendText(packed("+0,1;+0,"));
        }
        due("appendText up to 79", 79, () -> x.appendText(packed("1234567")));
        refused("appendText beyond 80", STATE, () -> x.appendText(packed("12")));
        due("appendText up to 80", 80, () -> x.appendText(packed("8")));
        refused("appendText beyond 80", STATE, () -> x.appendText(packed("1")));
        refused("appendText of 8 beyond 80", STATE, () -> x.appendText(packed("12345678")));
        refused("appendText of none beyond 80", ARGUMENT, () -> x.appendText(0));
        refused("appendText of wrong ones beyond 80", ARGUMENT, () -> x.appendText(32));
    }

    private void clearTextAndLength() {
        fresh(29);
        due("clearText(), empty", 0, () -> x.clearText());
        x.appendText(packed("+0,1;x"));
        due("clearText()", 6, () -> x.clearText());
        due("clearText() again", 0, () -> x.clearText());
        x.appendText(packed("c0,1"));
        due("textError(), nothing of the text before stays", -1, () -> x.textError());
        fresh(30);
        due("textLength()", 0, () -> x.textLength());
        x.appendText(packed("+0,1;x"));
        due("textLength()", 6, () -> x.textLength());
        x.appendText(packed("y"));
        due("textLength()", 7, () -> x.textLength());
        x.clearText();
        due("textLength()", 0, () -> x.textLength());
    }

    private void error(int want, String text) {
        x.clearText();
        type(text);
        due("textError() of " + text, want, () -> x.textError());
    }

    private void textError() {
        fresh(31);
        due("textError(), empty", 0, () -> x.textError());
        for (String correct : new String[] {
            "s0=0/0", "s9=9999/9999", "s5=1/1000", "s0=10/1", "+0,0", "-9,9",
            "*1,2", "c3,4", "+0,1;-1,0", "s0=1/2;s1=3/4;c0,1", "s0=100/1000;*0,0"}) {
            error(-1, correct);
        }
        String longest = "s0=1234/5678;s1=90/12;+0,1;-2,3;*4,5;c0,1;s5=1/2;s4=9/8;s3=7/6;s2=5/4";
        for (int end = 1; end <= longest.length(); end++) {
            String begun = longest.substring(0, end);
            String last = begun.substring(begun.lastIndexOf(';') + 1);
            boolean complete = last.matches("s[0-9]=[0-9]+/[0-9]+|[-+*c][0-9],[0-9]");
            error(complete ? -1 : end, begun);
        }
        errorsInSet();
        errorsInPairs();
    }

    private void errorsInSet() {
        error(0, "0");
        error(0, "S0=1/2");
        error(0, "a0,1");
        error(0, ";");
        error(0, ";+0,1");
        error(1, "s=");
        error(1, "sx=1/2");
        error(2, "s01=1/2");
        error(2, "s0,1");
        error(3, "s0=/2");
        error(3, "s0=-1/2");
        error(4, "s0=1;");
        error(4, "s0=1,2");
        error(4, "s0=00/1");
        error(4, "s0=05/1");
        error(7, "s0=10000/1");
        error(5, "s0=1/;");
        error(5, "s0=1//2");
        error(6, "s0=1/00");
        error(6, "s0=1/01");
        error(9, "s0=1/99990");
        error(6, "s0=1/2,1");
        error(6, "s0=1/2/3");
        error(7, "s0=1/2;;");
        error(7, "s0=1/2;0");
        error(7, "s0=1/2;");
        error(9, "s0=1/2;s0+");
    }

    private void errorsInPairs() {
        for (String letter : new String[] {"+", "-", "*", "c"}) {
            error(1, letter);
            error(1, letter + ",1");
            error(2, letter + "0=1/2");
            error(2, letter + "01,2");
            error(3, letter + "0,,");
            error(3, letter + "0,x");
            error(4, letter + "0,12");
            error(4, letter + "0,1,2");
            error(4, letter + "0,1" + letter);
            error(5, letter + "0,1;");
            error(5, letter + "0,1;;");
            error(3, letter + "0,;x");
        }
        error(9, "+0,1;+0,1x;y");
        String full = "+0,1;+0,1;+0,1;+0,1;+0,1;+0,1;+0,1;+0,1;";
        error(80, full + full);
        error(79, full + full.substring(0, 39) + "x");
        error(-1, full + full.substring(0, 39));
    }

    private void runs(int executed, String text) {
        type(text);
        due("runText() of " + text, executed, () -> x.runText());
        due("textLength() behind " + text, 0, () -> x.textLength());
    }

    private void runText() {
        fresh(32);
        runs(1, "s0=6/8");
        holds(0, 3, 4);
        runs(4, "s1=1/6;+0,1;*0,0;c0,2");
        holds(0, 121, 144);
        holds(1, 1, 6);
        holds(2, 121, 144);
        runs(1, "-0,1");
        holds(0, 97, 144);
        due("undoCount()", 3, () -> x.undoCount());
        runs(1, "s3=9999/1000");
        holds(3, 9999, 1000);
        runs(1, "c3,3");
        runs(2, "c5,3;c0,4");
        holds(3, 0, 1);
        holds(4, 97, 144);
        runsUpToTheFirstThatFails();
        runsOfWrongTexts();
    }

    private void runsUpToTheFirstThatFails() {
        x = new SliceShares();
        runs(2, "s0=1/2;s1=1/3;-1,0;s2=1/5");
        holds(1, 1, 3);
        holds(2, 0, 1);
        due("undoCount()", 1, () -> x.undoCount());
        runs(0, "s0=1/0;s0=5/1");
        holds(0, 1, 2);
        due("undoCount(), none was executed", 2, () -> x.undoCount());
        for (String failing : new String[] {
            "s6=1/2", "s9=1/2", "s0=0/0", "+6,0", "+0,6", "-6,0", "-0,7", "*6,0", "*0,8", "c6,0",
            "c0,9", "c9,9", "-1,0"}) {
            runs(1, "s4=1/7;" + failing + ";s4=1/9");
            holds(4, 1, 7);
        }
        due("undoCount()", 6, () -> x.undoCount());
        runs(9, "s0=1000/1;*0,0;c0,1;c0,2;c0,3;c0,4;c0,5;-5,5;s0=1/1");
        runs(15, "s0=10/8;s1=1/16;" + "-0,1;".repeat(12) + "c0,5");
        holds(5, 1, 2);
        runs(2, "s0=1000/1;*0,0;+0,0;s0=7/1");
        holds(0, 1000000, 1);
        runs(2, "s0=1/1000;*0,0;*0,0;s0=7/1");
        holds(0, 1, 1000000);
        runs(16, "c0,1;c0,1;c0,1;c0,1;c0,1;c0,1;c0,1;c0,1;c0,1;c0,1;c0,1;c0,1;c0,1;c0,1;c0,1;c0,2");
    }

    private void runsOfWrongTexts() {
        x = new SliceShares();
        x.set(0, 1, 2);
        refused("runText(), empty", STATE, () -> x.runText());
        for (String wrong : new String[] {"s", "s0=1/2;", "s0=1/2;x", "+0,1x", "x", "s0=1/2;+0"}) {
            x.clearText();
            type(wrong);
            refused("runText() of " + wrong, STATE, () -> x.runText());
        }
    }

    // ---- undo, saved states

    private void undo() {
        fresh(33);
        refused("undo()", STATE, () -> x.undo());
        x.set(0, 1, 2);
        x.set(0, 1, 3);
        due("undo()", 1, () -> x.undo());
        holds(0, 1, 2);
        due("undo()", 0, () -> x.undo());
        holds(0, 0, 1);
        refused("undo()", STATE, () -> x.undo());
        for (int denominator = 1; denominator <= 9; denominator++) {
            x.set(1, 1, denominator);
        }
        for (int left = 5; left >= 0; left--) {
            int want = left;
            due("undo()", want, () -> x.undo());
            holds(1, 1, left + 3);
        }
        refused("undo(), the oldest states were dropped", STATE, () -> x.undo());
        undoBesidesThePlates();
        promise = 34;
        x = new SliceShares();
        due("undoCount()", 0, () -> x.undoCount());
        for (int changes = 1; changes <= 20; changes++) {
            x.set(0, 1, changes);
            int want = Math.min(6, changes);
            due("undoCount()", want, () -> x.undoCount());
        }
        x.undo();
        due("undoCount() behind undo()", 5, () -> x.undoCount());
    }

    /** The text, the slots and the history itself are not undone. */
    private void undoBesidesThePlates() {
        x = new SliceShares();
        x.set(0, 1, 2);
        type("s0=1/3");
        x.saveState(0);
        due("undo()", 0, () -> x.undo());
        due("textLength() behind undo()", 6, () -> x.textLength());
        due("loadState(0) behind undo()", 1, () -> x.loadState(0));
        holds(0, 1, 2);
        due("runText()", 1, () -> x.runText());
        due("undo()", 1, () -> x.undo());
        holds(0, 1, 2);
        due("textLength(), the text stays empty", 0, () -> x.textLength());
        due("undo()", 0, () -> x.undo());
        holds(0, 0, 1);
    }

    /** Each change records one state, even if it alters nothing, and nothing else does. */
    private void undoOfEachChange() {
        fresh(33);
        x.set(0, 1, 2);
        x.set(1, 1, 3);
        x.saveState(1);
        x.undo();
        x.undo();
        x.loadState(1);
        recordsOne("set", () -> x.set(0, 1, 2));
        recordsOne("add", () -> x.add(0, 1));
        recordsOne("takeAway", () -> x.takeAway(0, 1));
        recordsOne("multiply", () -> x.multiply(0, 1));
        recordsOne("copyTo", () -> x.copyTo(0, 0));
        recordsOne("invert", () -> x.invert(0));
        recordsOne("share", () -> x.share(0, 1));
        recordsOne("roundTo", () -> x.roundTo(0, 1));
        recordsOne("loadState", () -> x.loadState(1));
        type("s0=1/7;s0=1/9");
        recordsOne("runText", () -> x.runText());
        promise = 34;
        String before = Checks.looks(x);
        x.saveState(0);
        x.compare(0, 1);
        x.nearestNumerator(0, 5);
        x.termCount(0);
        x.unitCount(0);
        x.commonParts();
        due("what the object looks like behind what is no change", before,
                () -> Checks.looks(x));
    }

    private void recordsOne(String change, Checks.Call call) {
        promise = 33;
        int count = x.undoCount();
        int[] before = numbers();
        call.answer();
        promise = 34;
        due("undoCount() behind " + change, count + 1, () -> x.undoCount());
        promise = 33;
        due("undo() of " + change, count, () -> x.undo());
        int[] after = numbers();
        for (int i = 0; i < before.length; i++) {
            int index = i;
            due("number " + i + " behind undo() of " + change, before[i], () -> after[index]);
        }
    }

    private int[] numbers() {
        int[] numbers = new int[12];
        for (int plate = 0; plate < 6; plate++) {
            numbers[2 * plate] = x.numeratorOf(plate);
            numbers[2 * plate + 1] = x.denominatorOf(plate);
        }
        return numbers;
    }

    private void slots() {
        fresh(35);
        x.set(2, 0, 7);
        due("saveState(1), all 0", 0, () -> x.saveState(1));
        x.set(0, 1, 2);
        x.set(5, 3, 1);
        due("saveState(0)", 2, () -> x.saveState(0));
        due("undoCount(), saving is no change", 3, () -> x.undoCount());
        refusedForSlots("saveState", x::saveState);
        promise = 36;
        due("loadState(1)", 0, () -> x.loadState(1));
        holds(0, 0, 1);
        holds(5, 0, 1);
        due("undoCount()", 4, () -> x.undoCount());
        due("loadState(0)", 2, () -> x.loadState(0));
        holds(0, 1, 2);
        holds(5, 3, 1);
        x.set(0, 1, 7);
        due("loadState(0), the slot keeps it", 2, () -> x.loadState(0));
        holds(0, 1, 2);
        refusedForSlots("loadState", x::loadState);
        promise = 35;
        x.set(1, 1, 9);
        due("saveState(0), replaced", 3, () -> x.saveState(0));
        x.set(1, 0, 1);
        promise = 36;
        due("loadState(0), replaced", 3, () -> x.loadState(0));
        holds(1, 1, 9);
        x = new SliceShares();
        refused("loadState(0), nothing saved", STATE, () -> x.loadState(0));
        x.saveState(0);
        refused("loadState(1), nothing saved", STATE, () -> x.loadState(1));
    }

    private void refusedForSlots(String name, OnOnePlate asked) {
        for (int slot : new int[] {-1, 2, Integer.MIN_VALUE, Integer.MAX_VALUE}) {
            refused(name + "(" + slot + ")", INDEX, () -> asked.call(slot));
        }
    }
}
