import java.math.BigInteger;
import java.util.ArrayDeque;
import java.util.ArrayList;
import java.util.List;
import java.util.regex.Matcher;
import java.util.regex.Pattern;

/**
 * The document once more, in the words of its terms and without regard to speed or size: numbers
 * without bounds, the tree walked step by step, the text matched by a pattern.
 */
final class Model {
    private static final BigInteger LIMIT = BigInteger.valueOf(1000000);
    private static final BigInteger GREATEST_UNIT = BigInteger.valueOf(1000000000);
    private static final BigInteger MOST_PARTS = BigInteger.valueOf(1000000000000000L);
    private static final String NUMBER = "(?:0|[1-9][0-9]{0,3})";
    private static final String COMMAND =
            "(?:s[0-9]=" + NUMBER + "/" + NUMBER + "|[-+*c][0-9],[0-9])";
    private static final Pattern TEXT = Pattern.compile(COMMAND + "(?:;" + COMMAND + ")*");

    record Fraction(BigInteger n, BigInteger d) implements Comparable<Fraction> {
        static Fraction of(BigInteger n, BigInteger d) {
            BigInteger divisor = n.gcd(d);
            return new Fraction(n.divide(divisor), d.divide(divisor));
        }

        static Fraction of(long n, long d) {
            return of(BigInteger.valueOf(n), BigInteger.valueOf(d));
        }

        Fraction plus(Fraction other) {
            return of(n.multiply(other.d).add(other.n.multiply(d)), d.multiply(other.d));
        }

        Fraction minus(Fraction other) {
            return of(n.multiply(other.d).subtract(other.n.multiply(d)), d.multiply(other.d));
        }

        Fraction times(Fraction other) {
            return of(n.multiply(other.n), d.multiply(other.d));
        }

        boolean isZero() {
            return n.signum() == 0;
        }

        boolean isPossible() {
            return n.signum() >= 0 && n.compareTo(LIMIT) <= 0 && d.compareTo(LIMIT) <= 0;
        }

        @Override
        public int compareTo(Fraction other) {
            return n.multiply(other.d).compareTo(other.n.multiply(d));
        }
    }

    private static final Fraction ZERO = Fraction.of(0, 1);
    private static final Fraction ONE = Fraction.of(1, 1);

    private Fraction[] plates = {ZERO, ZERO, ZERO, ZERO, ZERO, ZERO};
    private final ArrayDeque<Fraction[]> history = new ArrayDeque<>();
    private final Fraction[][] slots = new Fraction[2][];
    private String text = "";

    // ---- changes

    int set(int plate, int numerator, int denominator) {
        plate(plate);
        if (numerator < 0 || numerator > 1000000 || denominator < 1 || denominator > 1000000) {
            throw new IllegalArgumentException();
        }
        return put(plate, Fraction.of(numerator, denominator));
    }

    int add(int plate, int other) {
        return put(plate, plate(plate).plus(plate(other)));
    }

    int takeAway(int plate, int other) {
        return put(plate, plate(plate).minus(plate(other)));
    }

    int multiply(int plate, int other) {
        return put(plate, plate(plate).times(plate(other)));
    }

    boolean copyTo(int plate, int other) {
        boolean same = plate(plate).equals(plate(other));
        put(other, plate(plate));
        return same;
    }

    int invert(int plate) {
        Fraction fraction = notZero(plate);
        return put(plate, new Fraction(fraction.d, fraction.n));
    }

    int share(int plate, int guests) {
        Fraction fraction = plate(plate);
        if (guests < 1 || guests > 100) {
            throw new IllegalArgumentException();
        }
        return put(plate, fraction.times(Fraction.of(1, guests)));
    }

    int roundTo(int plate, int greatest) {
        return put(plate, nearest(plate, greatest));
    }

    private int put(int plate, Fraction fraction) {
        if (!fraction.isPossible()) {
            throw new IllegalStateException();
        }
        record();
        plates[plate] = fraction;
        return fraction.d.intValueExact();
    }

    private void record() {
        history.addLast(plates.clone());
        if (history.size() > 6) {
            history.removeFirst();
        }
    }

    // ---- plates

    private Fraction plate(int plate) {
        if (plate < 0 || plate > 5) {
            throw new IndexOutOfBoundsException();
        }
        return plates[plate];
    }

    private Fraction notZero(int plate) {
        Fraction fraction = plate(plate);
        if (fraction.isZero()) {
            throw new IllegalStateException();
        }
        return fraction;
    }

    int numeratorOf(int plate) {
        return plate(plate).n.intValueExact();
    }

    int denominatorOf(int plate) {
        return plate(plate).d.intValueExact();
    }

    int compare(int plate, int other) {
        return plate(plate).compareTo(plate(other));
    }

    int plateByAmount(int place) {
        if (place < 0 || place > 5) {
            throw new IndexOutOfBoundsException();
        }
        List<Integer> order = new ArrayList<>(List.of(0, 1, 2, 3, 4, 5));
        order.sort((one, other) -> plates[other].compareTo(plates[one]));
        return order.get(place);
    }

    long commonParts() {
        BigInteger parts = BigInteger.ONE;
        for (Fraction fraction : plates) {
            parts = parts.multiply(fraction.d).divide(parts.gcd(fraction.d));
        }
        return parts.compareTo(MOST_PARTS) > 0 ? -1 : parts.longValueExact();
    }

    int differentFractions() {
        return (int) List.of(plates).stream().distinct().count();
    }

    // ---- continued fractions

    private List<BigInteger> terms(Fraction fraction) {
        List<BigInteger> terms = new ArrayList<>();
        BigInteger[] parts = fraction.n.divideAndRemainder(fraction.d);
        terms.add(parts[0]);
        if (parts[1].signum() != 0) {
            terms.addAll(terms(new Fraction(fraction.d, parts[1])));
        }
        return terms;
    }

    private static Fraction standsFor(List<BigInteger> terms) {
        Fraction first = new Fraction(terms.get(0), BigInteger.ONE);
        if (terms.size() == 1) {
            return first;
        }
        Fraction others = standsFor(terms.subList(1, terms.size()));
        return first.plus(new Fraction(others.d, others.n));
    }

    private List<BigInteger> beginning(int plate, int term) {
        List<BigInteger> terms = terms(plate(plate));
        if (term < 0 || term >= terms.size()) {
            throw new IndexOutOfBoundsException();
        }
        return terms.subList(0, term + 1);
    }

    int termCount(int plate) {
        return terms(plate(plate)).size();
    }

    int termAt(int plate, int term) {
        return beginning(plate, term).get(term).intValueExact();
    }

    int beginningNumerator(int plate, int term) {
        return standsFor(beginning(plate, term)).n.intValueExact();
    }

    int beginningDenominator(int plate, int term) {
        return standsFor(beginning(plate, term)).d.intValueExact();
    }

    private Fraction nearest(int plate, int greatest) {
        Fraction fraction = plate(plate);
        if (greatest < 1 || greatest > 1000) {
            throw new IllegalArgumentException();
        }
        long n = fraction.n.longValueExact();
        long d = fraction.d.longValueExact();
        long bestN = 0;
        long bestD = 1;
        for (long tryD = 1; tryD <= greatest; tryD++) {
            for (long tryN = Math.max(0, n * tryD / d - 2); tryN <= n * tryD / d + 2; tryN++) {
                long distance = Math.abs(n * tryD - tryN * d);
                if (distance * bestD < Math.abs(n * bestD - bestN * d) * tryD) {
                    bestN = tryN;
                    bestD = tryD;
                }
            }
        }
        return new Fraction(BigInteger.valueOf(bestN), BigInteger.valueOf(bestD));
    }

    int nearestDenominator(int plate, int greatest) {
        return nearest(plate, greatest).d.intValueExact();
    }

    int nearestNumerator(int plate, int greatest) {
        return nearest(plate, greatest).n.intValueExact();
    }

    // ---- units and the tree

    /** The units; -1 as the last one if it would be too great. */
    private List<Integer> units(int plate) {
        Fraction rest = plate(plate);
        if (rest.compareTo(ONE) >= 0) {
            throw new IllegalStateException();
        }
        List<Integer> units = new ArrayList<>();
        while (!rest.isZero()) {
            BigInteger unit = rest.d.add(rest.n).subtract(BigInteger.ONE).divide(rest.n);
            if (unit.compareTo(GREATEST_UNIT) > 0) {
                units.add(-1);
                return units;
            }
            units.add(unit.intValueExact());
            rest = rest.minus(new Fraction(BigInteger.ONE, unit));
        }
        return units;
    }

    int unitCount(int plate) {
        List<Integer> units = units(plate);
        return units.contains(-1) ? -1 : units.size();
    }

    int unitAt(int plate, int unit) {
        plate(plate);
        if (unit < 0 || unit > 3) {
            throw new IndexOutOfBoundsException();
        }
        List<Integer> units = units(plate);
        return unit < units.size() ? units.get(unit) : -1;
    }

    /** How many steps, how many turns, and whether the first step goes right (1). */
    private int[] way(int plate) {
        Fraction fraction = notZero(plate);
        long n = fraction.n.longValueExact();
        long d = fraction.d.longValueExact();
        long lowN = 0;
        long lowD = 1;
        long highN = 1;
        long highD = 0;
        int steps = 0;
        int turns = 0;
        boolean firstRight = false;
        boolean lastRight = false;
        while (n * (lowD + highD) != d * (lowN + highN)) {
            boolean right = n * (lowD + highD) > d * (lowN + highN);
            if (right) {
                lowN += highN;
                lowD += highD;
            } else {
                highN += lowN;
                highD += lowD;
            }
            firstRight = steps == 0 ? right : firstRight;
            turns += steps > 0 && right != lastRight ? 1 : 0;
            lastRight = right;
            steps++;
        }
        return new int[] {steps, turns, firstRight ? 1 : 0};
    }

    int waySteps(int plate) {
        return way(plate)[0];
    }

    int wayTurns(int plate) {
        return way(plate)[1];
    }

    boolean beginsRight(int plate) {
        return way(plate)[2] == 1;
    }

    // ---- the text

    int appendText(long characters) {
        StringBuilder more = new StringBuilder();
        int shift = 0;
        while (shift < 64 && (characters >>> shift & 255) != 0) {
            long code = characters >>> shift & 255;
            if (code < 33 || code > 126) {
                throw new IllegalArgumentException();
            }
            more.insert(0, (char) code);
            shift += 8;
        }
        if (shift == 0 || (shift < 64 && characters >>> shift != 0)) {
            throw new IllegalArgumentException();
        }
        if (text.length() + more.length() > 80) {
            throw new IllegalStateException();
        }
        text += more;
        return text.length();
    }

    int clearText() {
        int length = text.length();
        text = "";
        return length;
    }

    int textLength() {
        return text.length();
    }

    int textError() {
        for (int end = 1; end <= text.length(); end++) {
            Matcher matcher = TEXT.matcher(text.substring(0, end));
            if (!matcher.matches() && !matcher.hitEnd()) {
                return end - 1;
            }
        }
        return TEXT.matcher(text).matches() ? -1 : text.length();
    }

    int runText() {
        if (textError() != -1) {
            throw new IllegalStateException();
        }
        record();
        int executed = 0;
        for (String command : text.split(";")) {
            if (!executed(command)) {
                break;
            }
            executed++;
        }
        text = "";
        return executed;
    }

    /** Asks the method that does the same of another model, so that this one records nothing. */
    private boolean executed(String command) {
        Model other = new Model();
        other.plates = plates.clone();
        String[] numbers = command.substring(1).split("[=/,]");
        int plate = Integer.parseInt(numbers[0]);
        int second = Integer.parseInt(numbers[1]);
        try {
            switch (command.charAt(0)) {
                case 's' -> other.set(plate, second, Integer.parseInt(numbers[2]));
                case '+' -> other.add(plate, second);
                case '-' -> other.takeAway(plate, second);
                case '*' -> other.multiply(plate, second);
                default -> other.copyTo(plate, second);
            }
        } catch (RuntimeException e) {
            return false;
        }
        plates = other.plates;
        return true;
    }

    // ---- undo, saved states

    int undo() {
        if (history.isEmpty()) {
            throw new IllegalStateException();
        }
        plates = history.removeLast();
        return history.size();
    }

    int undoCount() {
        return history.size();
    }

    private int notZero() {
        int count = 0;
        for (Fraction fraction : plates) {
            count += fraction.isZero() ? 0 : 1;
        }
        return count;
    }

    private static void slot(int slot) {
        if (slot < 0 || slot > 1) {
            throw new IndexOutOfBoundsException();
        }
    }

    int saveState(int slot) {
        slot(slot);
        slots[slot] = plates.clone();
        return notZero();
    }

    int loadState(int slot) {
        slot(slot);
        if (slots[slot] == null) {
            throw new IllegalStateException();
        }
        record();
        plates = slots[slot].clone();
        return notZero();
    }
}
