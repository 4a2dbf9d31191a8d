/**
 * A pie service that never rounds: six plates, each with an exact fraction of pies.
 *
 * <p>A fraction is held in one long (see Fractions), and every row is made with the object, so that
 * no call has to make an object of its own.
 */
public final class SliceShares {
    public static final int NONE = -1;

    private static final int PLATES = 6;
    private static final int GREATEST_PART = 1000000;
    private static final int MOST_GUESTS = 100;
    private static final int GREATEST_LIMIT = 1000;
    private static final long MOST_COMMON_PARTS = 1000000000000000L;
    private static final int UNITS_TOLD = 4;
    private static final int SLOTS = 2;

    private final long[] plates;
    private final ContinuedFraction continued;
    private final CommandText text;
    private final CommandReader reader;
    private final History history;
    private final long[] slots;
    private final boolean[] slotFilled;

    public SliceShares() {
        plates = new long[PLATES];
        for (int plate = 0; plate < PLATES; plate++) {
            plates[plate] = Fractions.ZERO;
        }
        continued = new ContinuedFraction();
        text = new CommandText();
        reader = new CommandReader();
        history = new History();
        slots = new long[SLOTS * PLATES];
        slotFilled = new boolean[SLOTS];
    }

    // ---- changes

    public int set(int plate, int numerator, int denominator)
            throws IndexOutOfBoundsException, IllegalArgumentException {
        requirePlate(plate);
        if (numerator < 0 || numerator > GREATEST_PART) {
            throw new IllegalArgumentException("the numerator is out of range");
        }
        if (denominator < 1 || denominator > GREATEST_PART) {
            throw new IllegalArgumentException("the denominator is out of range");
        }
        return change(plate, Fractions.inLowestTerms(numerator, denominator));
    }

    public int add(int plate, int other) throws IndexOutOfBoundsException, IllegalStateException {
        requirePlate(plate);
        requirePlate(other);
        return changeIfPossible(plate, Fractions.sum(plates[plate], plates[other]));
    }

    public int takeAway(int plate, int other)
            throws IndexOutOfBoundsException, IllegalStateException {
        requirePlate(plate);
        requirePlate(other);
        return changeIfPossible(plate, Fractions.difference(plates[plate], plates[other]));
    }

    public int multiply(int plate, int other)
            throws IndexOutOfBoundsException, IllegalStateException {
        requirePlate(plate);
        requirePlate(other);
        return changeIfPossible(plate, Fractions.product(plates[plate], plates[other]));
    }

    public boolean copyTo(int plate, int other) throws IndexOutOfBoundsException {
        requirePlate(plate);
        requirePlate(other);
        boolean same = plates[other] == plates[plate];
        change(other, plates[plate]);
        return same;
    }

    public int invert(int plate) throws IndexOutOfBoundsException, IllegalStateException {
        requireNotZero(plate);
        long fraction = plates[plate];
        return change(plate, Fractions.inLowestTerms(
                Fractions.denominator(fraction), Fractions.numerator(fraction)));
    }

    public int share(int plate, int guests)
            throws IndexOutOfBoundsException, IllegalArgumentException, IllegalStateException {
        requirePlate(plate);
        if (guests < 1 || guests > MOST_GUESTS) {
            throw new IllegalArgumentException("the number of guests is out of range");
        }
        long fraction = plates[plate];
        return changeIfPossible(plate, Fractions.inLowestTerms(
                Fractions.numerator(fraction), Fractions.denominator(fraction) * guests));
    }

    public int roundTo(int plate, int greatest)
            throws IndexOutOfBoundsException, IllegalArgumentException {
        return change(plate, nearest(plate, greatest));
    }

    // ---- plates

    public int numeratorOf(int plate) throws IndexOutOfBoundsException {
        requirePlate(plate);
        return (int) Fractions.numerator(plates[plate]);
    }

    public int denominatorOf(int plate) throws IndexOutOfBoundsException {
        requirePlate(plate);
        return (int) Fractions.denominator(plates[plate]);
    }

    public int compare(int plate, int other) throws IndexOutOfBoundsException {
        requirePlate(plate);
        requirePlate(other);
        return Fractions.order(plates[plate], plates[other]);
    }

    public int plateByAmount(int place) throws IndexOutOfBoundsException {
        if (place < 0 || place >= PLATES) {
            throw new IndexOutOfBoundsException("there is no such place");
        }
        int found = NONE;
        for (int plate = 0; plate < PLATES; plate++) {
            if (platesAhead(plate) == place) {
                found = plate;
            }
        }
        return found;
    }

    public long commonParts() {
        long parts = 1;
        for (int plate = 0; plate < PLATES; plate++) {
            long denominator = Fractions.denominator(plates[plate]);
            long factor = parts / Fractions.commonDivisor(parts, denominator);
            // Asked by a division, because the product itself may not fit into a long.
            if (factor > MOST_COMMON_PARTS / denominator) {
                return NONE;
            }
            parts = factor * denominator;
        }
        return parts;
    }

    public int differentFractions() {
        int different = 0;
        for (int plate = 0; plate < PLATES; plate++) {
            if (!isOnLowerPlate(plate)) {
                different++;
            }
        }
        return different;
    }

    // ---- continued fractions

    public int termCount(int plate) throws IndexOutOfBoundsException {
        requirePlate(plate);
        continued.expand(plates[plate]);
        return continued.count();
    }

    public int termAt(int plate, int term) throws IndexOutOfBoundsException {
        expandToTerm(plate, term);
        return continued.term(term);
    }

    public int beginningNumerator(int plate, int term) throws IndexOutOfBoundsException {
        expandToTerm(plate, term);
        return (int) Fractions.numerator(continued.beginning(term));
    }

    public int beginningDenominator(int plate, int term) throws IndexOutOfBoundsException {
        expandToTerm(plate, term);
        return (int) Fractions.denominator(continued.beginning(term));
    }

    public int nearestDenominator(int plate, int greatest)
            throws IndexOutOfBoundsException, IllegalArgumentException {
        return (int) Fractions.denominator(nearest(plate, greatest));
    }

    public int nearestByTrying(int plate, int greatest)
            throws IndexOutOfBoundsException, IllegalArgumentException {
        requirePlate(plate);
        requireLimit(greatest);
        return triedDenominator(plates[plate], greatest);
    }

    public int nearestNumerator(int plate, int greatest)
            throws IndexOutOfBoundsException, IllegalArgumentException {
        return (int) Fractions.numerator(nearest(plate, greatest));
    }

    // ---- units and the tree

    public int unitCount(int plate) throws IndexOutOfBoundsException, IllegalStateException {
        requirePlate(plate);
        requireLessThanOne(plate);
        return Units.count(plates[plate]);
    }

    public int unitAt(int plate, int unit)
            throws IndexOutOfBoundsException, IllegalStateException {
        requirePlate(plate);
        if (unit < 0 || unit >= UNITS_TOLD) {
            throw new IndexOutOfBoundsException("the unit is out of range");
        }
        requireLessThanOne(plate);
        int found = Units.unit(plates[plate], unit);
        return found == Units.NO_MORE ? NONE : found;
    }

    public int waySteps(int plate) throws IndexOutOfBoundsException, IllegalStateException {
        requireNotZero(plate);
        continued.expand(plates[plate]);
        // Each term tells a run of steps one way; the last step would lead past the fraction.
        return continued.sumOfTerms() - 1;
    }

    public int wayTurns(int plate) throws IndexOutOfBoundsException, IllegalStateException {
        requireNotZero(plate);
        continued.expand(plates[plate]);
        // A first term 0 tells that the way has no run to the right ahead of the one to the left.
        int runs = continued.term(0) == 0 ? continued.count() - 1 : continued.count();
        return runs - 1;
    }

    public boolean beginsRight(int plate) throws IndexOutOfBoundsException, IllegalStateException {
        requireNotZero(plate);
        return Fractions.order(plates[plate], Fractions.ONE) > 0;
    }

    // ---- the text

    public int appendText(long characters)
            throws IllegalArgumentException, IllegalStateException {
        int count = CommandText.characterCount(characters);
        if (count < 1) {
            throw new IllegalArgumentException("these are no characters of a text");
        }
        if (!text.hasRoomFor(count)) {
            throw new IllegalStateException("the text would be too long");
        }
        text.append(characters, count);
        return text.length();
    }

    public int clearText() {
        int length = text.length();
        text.empty();
        return length;
    }

    public int textLength() {
        return text.length();
    }

    public int textError() {
        reader.begin();
        for (int i = 0; i < text.length(); i++) {
            if (!reader.accept(text.character(i))) {
                return i;
            }
        }
        return reader.isComplete() ? NONE : text.length();
    }

    public int runText() throws IllegalStateException {
        if (textError() != NONE) {
            throw new IllegalStateException("the text has an error");
        }
        history.record(plates);
        int executed = executeCommands();
        text.empty();
        return executed;
    }

    // ---- undo, saved states

    public int undo() throws IllegalStateException {
        if (history.count() == 0) {
            throw new IllegalStateException("no state is recorded");
        }
        history.restore(plates);
        return history.count();
    }

    public int undoCount() {
        return history.count();
    }

    public int saveState(int slot) throws IndexOutOfBoundsException {
        requireSlot(slot);
        System.arraycopy(plates, 0, slots, slot * PLATES, PLATES);
        slotFilled[slot] = true;
        return platesNotZero();
    }

    public int loadState(int slot) throws IndexOutOfBoundsException, IllegalStateException {
        requireSlot(slot);
        if (!slotFilled[slot]) {
            throw new IllegalStateException("nothing was saved in the slot");
        }
        history.record(plates);
        System.arraycopy(slots, slot * PLATES, plates, 0, PLATES);
        return platesNotZero();
    }

    // ---- what a call requires

    private static boolean isPlate(int plate) {
        return plate >= 0 && plate < PLATES;
    }

    private static void requirePlate(int plate) {
        if (!isPlate(plate)) {
            throw new IndexOutOfBoundsException("there is no such plate");
        }
    }

    private void requireNotZero(int plate) {
        requirePlate(plate);
        if (plates[plate] == Fractions.ZERO) {
            throw new IllegalStateException("the plate is 0");
        }
    }

    private void requireLessThanOne(int plate) {
        if (Fractions.order(plates[plate], Fractions.ONE) >= 0) {
            throw new IllegalStateException("the plate holds 1 or more");
        }
    }

    private static void requireLimit(int greatest) {
        if (greatest < 1 || greatest > GREATEST_LIMIT) {
            throw new IllegalArgumentException("the greatest denominator is out of range");
        }
    }

    private static void requireSlot(int slot) {
        if (slot < 0 || slot >= SLOTS) {
            throw new IndexOutOfBoundsException("there is no such slot");
        }
    }

    // ---- how a call changes and looks

    private int change(int plate, long fraction) {
        history.record(plates);
        plates[plate] = fraction;
        return (int) Fractions.denominator(fraction);
    }

    private int changeIfPossible(int plate, long fraction) {
        if (fraction == Fractions.NOT_POSSIBLE) {
            throw new IllegalStateException("the fraction is not possible");
        }
        return change(plate, fraction);
    }

    private int platesAhead(int plate) {
        int ahead = 0;
        for (int other = 0; other < PLATES; other++) {
            int order = Fractions.order(plates[other], plates[plate]);
            if (order > 0 || (order == 0 && other < plate)) {
                ahead++;
            }
        }
        return ahead;
    }

    private boolean isOnLowerPlate(int plate) {
        for (int lower = 0; lower < plate; lower++) {
            if (plates[lower] == plates[plate]) {
                return true;
            }
        }
        return false;
    }

    private int platesNotZero() {
        int count = 0;
        for (int plate = 0; plate < PLATES; plate++) {
            if (plates[plate] != Fractions.ZERO) {
                count++;
            }
        }
        return count;
    }

    private void expandToTerm(int plate, int term) {
        requirePlate(plate);
        continued.expand(plates[plate]);
        if (term < 0 || term >= continued.count()) {
            throw new IndexOutOfBoundsException("there is no such term");
        }
    }

    private long nearest(int plate, int greatest) {
        requirePlate(plate);
        requireLimit(greatest);
        continued.expand(plates[plate]);
        return continued.nearest(greatest);
    }

    /** Shares nothing with the way by the continued fraction, so that each can check the other. */
    private static int triedDenominator(long fraction, int greatest) {
        int nearest = 1;
        // A later one has to be nearer, so that of several the least stays.
        for (int tried = 2; tried <= greatest; tried++) {
            if (Fractions.partsApart(fraction, tried) * nearest
                    < Fractions.partsApart(fraction, nearest) * tried) {
                nearest = tried;
            }
        }
        return nearest;
    }

    private int executeCommands() {
        int executed = 0;
        reader.begin();
        for (int i = 0; i < text.length(); i++) {
            if (text.character(i) == ';') {
                if (!execute()) {
                    return executed;
                }
                executed++;
            }
            reader.accept(text.character(i));
        }
        // No ";" stands behind the last command.
        return execute() ? executed + 1 : executed;
    }

    private boolean execute() {
        int plate = reader.plate();
        if (reader.letter() == 's') {
            long fraction = Fractions.inLowestTerms(reader.first(), reader.second());
            return isPlate(plate) && putIfPossible(plate, fraction);
        }
        int other = reader.second();
        if (!isPlate(plate) || !isPlate(other)) {
            return false;
        }
        switch (reader.letter()) {
            case '+':
                return putIfPossible(plate, Fractions.sum(plates[plate], plates[other]));
            case '-':
                return putIfPossible(plate, Fractions.difference(plates[plate], plates[other]));
            case '*':
                return putIfPossible(plate, Fractions.product(plates[plate], plates[other]));
            default:
                return putIfPossible(other, plates[plate]);
        }
    }

    private boolean putIfPossible(int plate, long fraction) {
        if (fraction == Fractions.NOT_POSSIBLE) {
            return false;
        }
        plates[plate] = fraction;
        return true;
    }

    /**
     * Fractions, each in one long: the numerator in the high bits, the denominator in the low ones.
     * In lowest terms two fractions are the same if their longs are.
     */
    private static final class Fractions {
        static final long NOT_POSSIBLE = -1;

        private static final int DENOMINATOR_BITS = 20;
        private static final long DENOMINATOR_MASK = (1L << DENOMINATOR_BITS) - 1;

        static final long ZERO = 1;
        static final long ONE = (1L << DENOMINATOR_BITS) | 1;

        // Far above the some sixty steps that two longs can need.
        private static final int MOST_DIVISIONS = 1000;

        private Fractions() {
        }

        static long pair(long numerator, long denominator) {
            return (numerator << DENOMINATOR_BITS) | denominator;
        }

        static long numerator(long fraction) {
            return fraction >> DENOMINATOR_BITS;
        }

        /** Never 0, whatever the long holds, so that it can always divide. */
        static long denominator(long fraction) {
            return Math.max(1, fraction & DENOMINATOR_MASK);
        }

        /** The fraction as a plate holds it; NOT_POSSIBLE if no plate can. */
        static long inLowestTerms(long numerator, long denominator) {
            if (numerator < 0 || denominator < 1) {
                return NOT_POSSIBLE;
            }
            long divisor = commonDivisor(numerator, denominator);
            long least = denominator / divisor;
            long parts = numerator / divisor;
            if (parts > GREATEST_PART || least > GREATEST_PART) {
                return NOT_POSSIBLE;
            }
            return pair(parts, least);
        }

        /** Never 0, whatever the numbers are, so that it can always divide. */
        static long commonDivisor(long one, long other) {
            long divisor = one;
            long rest = other;
            for (int i = 0; i < MOST_DIVISIONS && rest != 0; i++) {
                long next = divisor % rest;
                divisor = rest;
                rest = next;
            }
            return Math.max(1, divisor);
        }

        static long sum(long one, long other) {
            return inLowestTerms(
                    numerator(one) * denominator(other) + numerator(other) * denominator(one),
                    denominator(one) * denominator(other));
        }

        static long difference(long one, long other) {
            return inLowestTerms(
                    numerator(one) * denominator(other) - numerator(other) * denominator(one),
                    denominator(one) * denominator(other));
        }

        static long product(long one, long other) {
            return inLowestTerms(
                    numerator(one) * numerator(other), denominator(one) * denominator(other));
        }

        /** -1, 0 or 1 as one is less than, the same as or greater than the other. */
        static int order(long one, long other) {
            long left = numerator(one) * denominator(other);
            long right = numerator(other) * denominator(one);
            if (left == right) {
                return 0;
            }
            return left < right ? -1 : 1;
        }

        /**
         * How far the nearest fraction with another denominator lies away, multiplied by both
         * denominators.
         */
        static long partsApart(long fraction, int denominator) {
            long partsAbove = numerator(fraction) * denominator % denominator(fraction);
            return Math.min(partsAbove, denominator(fraction) - partsAbove);
        }

        /** The other one if it lies nearer to the fraction, and otherwise the first one. */
        static long nearer(long fraction, long one, long other) {
            // Both distances, multiplied by the three denominators.
            long distance = distanceTimesDenominators(fraction, one) * denominator(other);
            long otherDistance = distanceTimesDenominators(fraction, other) * denominator(one);
            return otherDistance < distance ? other : one;
        }

        private static long distanceTimesDenominators(long one, long other) {
            return Math.abs(
                    numerator(one) * denominator(other) - numerator(other) * denominator(one));
        }
    }

    /** The terms of one fraction at a time, and what its beginnings stand for. */
    private static final class ContinuedFraction {
        // No fraction of a plate has more than 30.
        private static final int MOST_TERMS = 40;

        private final int[] terms = new int[MOST_TERMS];
        private final long[] beginnings = new long[MOST_TERMS];
        private int count;

        void expand(long fraction) {
            long numerator = Fractions.numerator(fraction);
            long denominator = Fractions.denominator(fraction);
            count = 0;
            for (int i = 0; i < MOST_TERMS && denominator != 0; i++) {
                long rest = numerator % denominator;
                terms[i] = (int) (numerator / denominator);
                beginnings[i] = nextBeginning(i, terms[i]);
                count++;
                numerator = denominator;
                denominator = rest;
            }
        }

        /** A beginning with a term of one's own choice in place of the one with the index. */
        private long nextBeginning(int index, long term) {
            if (index < 1) {
                return Fractions.pair(term, 1);
            }
            long last = beginnings[index - 1];
            long numerator = term * Fractions.numerator(last);
            long denominator = term * Fractions.denominator(last);
            if (index == 1) {
                return Fractions.pair(numerator + 1, denominator);
            }
            long before = beginnings[index - 2];
            return Fractions.pair(numerator + Fractions.numerator(before),
                    denominator + Fractions.denominator(before));
        }

        int count() {
            return count;
        }

        int term(int index) {
            return terms[index];
        }

        long beginning(int index) {
            return beginnings[index];
        }

        int sumOfTerms() {
            int sum = 0;
            for (int i = 0; i < count; i++) {
                sum += terms[i];
            }
            return sum;
        }

        /** The nearest fraction with at most this denominator to the fraction that was expanded. */
        long nearest(int greatest) {
            int last = 0;
            for (int i = 1; i < count; i++) {
                if (Fractions.denominator(beginnings[i]) <= greatest) {
                    last = i;
                }
            }
            if (last == count - 1) {
                return beginnings[last];
            }
            // Beside the last beginning only the one that goes on with the greatest possible term
            // can be nearer; at the same distance the last beginning has the lesser denominator.
            long before = last == 0 ? 0 : Fractions.denominator(beginnings[last - 1]);
            long term = (greatest - before) / Fractions.denominator(beginnings[last]);
            long whole = beginnings[count - 1];
            return Fractions.nearer(whole, beginnings[last], nextBeginning(last + 1, term));
        }
    }

    /** The different unit fractions that a fraction less than 1 is the sum of. */
    private static final class Units {
        static final int NO_MORE = 0;

        private static final int GREATEST_UNIT = 1000000000;
        // What comes behind a unit above this one is above the greatest.
        private static final int LAST_UNIT_AHEAD_OF_OTHERS = 40000;
        // With the least units that can follow each other, 2, 3, 7, 43 .., a seventh is too great.
        private static final int MOST_UNITS = 8;

        private Units() {
        }

        /** How many; NONE if one of them would be too great. */
        static int count(long fraction) {
            int count = 0;
            int unit = unit(fraction, count);
            while (count < MOST_UNITS && unit > NO_MORE) {
                count++;
                unit = unit(fraction, count);
            }
            return unit == NO_MORE ? count : NONE;
        }

        /** The unit with an index; NO_MORE, or NONE if one up to this one would be too great. */
        static int unit(long fraction, int index) {
            long numerator = Fractions.numerator(fraction);
            long denominator = Fractions.denominator(fraction);
            for (int i = 0; i < MOST_UNITS && numerator > 0; i++) {
                long unit = (denominator + numerator - 1) / numerator;
                if (unit > GREATEST_UNIT) {
                    return NONE;
                }
                if (i == index) {
                    return (int) unit;
                }
                numerator = numerator * unit - denominator;
                // Answered ahead of time, because the next denominator may not fit into a long.
                if (numerator > 0 && unit > LAST_UNIT_AHEAD_OF_OTHERS) {
                    return NONE;
                }
                denominator = denominator * unit;
            }
            return NO_MORE;
        }
    }

    /** The characters of the commands. */
    private static final class CommandText {
        private static final int MOST_CHARACTERS = 80;
        private static final int MOST_APPENDED = 8;
        private static final int CHARACTER_BITS = 8;
        private static final int CHARACTER_MASK = 255;
        private static final int LEAST_CODE = 33;
        private static final int GREATEST_CODE = 126;

        private final char[] characters = new char[MOST_CHARACTERS];
        private int length;

        /** How many characters a number holds; 0 if it holds none or anything else. */
        static int characterCount(long packed) {
            int count = 0;
            long rest = packed;
            // A group that is 0 with bits above it is no character either: its code is too low.
            while (count < MOST_APPENDED && rest != 0) {
                int code = (int) (rest & CHARACTER_MASK);
                if (code < LEAST_CODE || code > GREATEST_CODE) {
                    return 0;
                }
                count++;
                rest >>>= CHARACTER_BITS;
            }
            return count;
        }

        boolean hasRoomFor(int count) {
            return length + count <= MOST_CHARACTERS;
        }

        void append(long packed, int count) {
            for (int i = count - 1; i >= 0; i--) {
                characters[length] = (char) ((packed >>> (i * CHARACTER_BITS)) & CHARACTER_MASK);
                length++;
            }
        }

        void empty() {
            length = 0;
        }

        int length() {
            return length;
        }

        char character(int index) {
            return characters[index];
        }
    }

    /**
     * Reads commands a character at a time and tells of each character whether it can follow. What
     * the latest command says is known when the command is complete, until the next one begins.
     */
    private static final class CommandReader {
        private static final int LETTER = 0;
        private static final int PLATE = 1;
        private static final int SIGN_BEHIND_PLATE = 2;
        private static final int FIRST_NUMBER = 3;
        private static final int SECOND_NUMBER = 4;
        private static final int OTHER_PLATE = 5;
        private static final int END_OF_COMMAND = 6;

        private static final int MOST_DIGITS = 4;

        private int expected;
        private int letter;
        private int plate;
        private int first;
        private int second;
        private int digits;

        void begin() {
            expected = LETTER;
        }

        int letter() {
            return letter;
        }

        int plate() {
            return plate;
        }

        /** The numerator of a set. */
        int first() {
            return first;
        }

        /** The denominator of a set, and otherwise the other plate. */
        int second() {
            return second;
        }

        boolean isComplete() {
            return expected == END_OF_COMMAND || (expected == SECOND_NUMBER && digits > 0);
        }

        boolean accept(char sign) {
            switch (expected) {
                case LETTER:
                    return acceptLetter(sign);
                case PLATE:
                    return acceptPlate(sign);
                case SIGN_BEHIND_PLATE:
                    return acceptSignBehindPlate(sign);
                case FIRST_NUMBER:
                    return acceptFirstNumber(sign);
                case SECOND_NUMBER:
                    return acceptSecondNumber(sign);
                case OTHER_PLATE:
                    return acceptOtherPlate(sign);
                default:
                    return acceptEnd(sign);
            }
        }

        private boolean acceptLetter(char sign) {
            if (sign != 's' && sign != '+' && sign != '-' && sign != '*' && sign != 'c') {
                return false;
            }
            letter = sign;
            first = 0;
            second = 0;
            digits = 0;
            expected = PLATE;
            return true;
        }

        private boolean acceptPlate(char sign) {
            if (!isDigit(sign)) {
                return false;
            }
            plate = sign - '0';
            expected = SIGN_BEHIND_PLATE;
            return true;
        }

        private boolean acceptSignBehindPlate(char sign) {
            if (letter == 's') {
                expected = FIRST_NUMBER;
                return sign == '=';
            }
            expected = OTHER_PLATE;
            return sign == ',';
        }

        private boolean acceptFirstNumber(char sign) {
            if (canFollow(first, sign)) {
                first = first * 10 + (sign - '0');
                digits++;
                return true;
            }
            if (sign != '/' || digits == 0) {
                return false;
            }
            digits = 0;
            expected = SECOND_NUMBER;
            return true;
        }

        private boolean acceptSecondNumber(char sign) {
            if (canFollow(second, sign)) {
                second = second * 10 + (sign - '0');
                digits++;
                return true;
            }
            return digits > 0 && acceptEnd(sign);
        }

        private boolean acceptOtherPlate(char sign) {
            if (!isDigit(sign)) {
                return false;
            }
            second = sign - '0';
            expected = END_OF_COMMAND;
            return true;
        }

        private boolean acceptEnd(char sign) {
            expected = LETTER;
            return sign == ';';
        }

        /** Whether the sign can be the next digit of the number whose digits were read so far. */
        private boolean canFollow(int number, char sign) {
            boolean isLeadingZero = digits > 0 && number == 0;
            return isDigit(sign) && digits < MOST_DIGITS && !isLeadingZero;
        }

        private static boolean isDigit(char sign) {
            return sign >= '0' && sign <= '9';
        }
    }

    /** The latest states of the plates, in a ring. */
    private static final class History {
        private static final int MOST_STATES = 6;

        private final long[] states = new long[MOST_STATES * PLATES];
        private int oldest;
        private int count;

        int count() {
            return count;
        }

        void record(long[] plates) {
            System.arraycopy(plates, 0, states, startBehindOldest(count), PLATES);
            if (count < MOST_STATES) {
                count++;
            } else {
                oldest = (oldest + 1) % MOST_STATES;
            }
        }

        /** Puts the latest state, which there has to be, onto the plates and forgets it. */
        void restore(long[] plates) {
            count--;
            System.arraycopy(states, startBehindOldest(count), plates, 0, PLATES);
        }

        private int startBehindOldest(int later) {
            return (oldest + later) % MOST_STATES * PLATES;
        }
    }
}
