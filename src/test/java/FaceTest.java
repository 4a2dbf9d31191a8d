import java.lang.reflect.Constructor;
import java.lang.reflect.Field;
import java.lang.reflect.Method;
import java.lang.reflect.Modifier;
import java.util.Set;
import java.util.TreeSet;

/** The class shows the document's public face and nothing else. */
public final class FaceTest {
    private static final String INDEX = " throws IndexOutOfBoundsException";
    private static final String ARGUMENT = " throws IllegalArgumentException";
    private static final String STATE = " throws IllegalStateException";
    private static final String INDEX_ARGUMENT = INDEX + ", IllegalArgumentException";
    private static final String INDEX_STATE = INDEX + ", IllegalStateException";

    private static final String[] FACE = {
        "public static final int NONE",
        "public SliceShares()",
        "public int set(int, int, int)" + INDEX_ARGUMENT,
        "public int add(int, int)" + INDEX_STATE,
        "public int takeAway(int, int)" + INDEX_STATE,
        "public int multiply(int, int)" + INDEX_STATE,
        "public boolean copyTo(int, int)" + INDEX,
        "public int invert(int)" + INDEX_STATE,
        "public int share(int, int)" + INDEX_ARGUMENT + ", IllegalStateException",
        "public int roundTo(int, int)" + INDEX_ARGUMENT,
        "public int numeratorOf(int)" + INDEX,
        "public int denominatorOf(int)" + INDEX,
        "public int compare(int, int)" + INDEX,
        "public int plateByAmount(int)" + INDEX,
        "public long commonParts()",
        "public int differentFractions()",
        "public int termCount(int)" + INDEX,
        "public int termAt(int, int)" + INDEX,
        "public int beginningNumerator(int, int)" + INDEX,
        "public int beginningDenominator(int, int)" + INDEX,
        "public int nearestDenominator(int, int)" + INDEX_ARGUMENT,
        "public int nearestByTrying(int, int)" + INDEX_ARGUMENT,
        "public int nearestNumerator(int, int)" + INDEX_ARGUMENT,
        "public int unitCount(int)" + INDEX_STATE,
        "public int unitAt(int, int)" + INDEX_STATE,
        "public int waySteps(int)" + INDEX_STATE,
        "public int wayTurns(int)" + INDEX_STATE,
        "public boolean beginsRight(int)" + INDEX_STATE,
        "public int appendText(long)" + ARGUMENT + ", IllegalStateException",
        "public int clearText()",
        "public int textLength()",
        "public int textError()",
        "public int runText()" + STATE,
        "public int undo()" + STATE,
        "public int undoCount()",
        "public int saveState(int)" + INDEX,
        "public int loadState(int)" + INDEX_STATE,
    };

    public static void main(String[] args) {
        Checks checks = new Checks();
        Set<String> due = new TreeSet<>();
        for (String member : FACE) {
            due.add(member);
        }
        checks.due("the members that are not private", due, visibleMembers());
        checks.due("the class", "public final",
                Modifier.toString(SliceShares.class.getModifiers()));
        checks.due("private methods with the name of a public one", new TreeSet<String>(),
                hiddenNamesOfTheFace());
        checks.due("NONE", -1, SliceShares.NONE);
        checks.end();
    }

    private static Set<String> visibleMembers() {
        Set<String> seen = new TreeSet<>();
        for (Field field : SliceShares.class.getDeclaredFields()) {
            if (!Modifier.isPrivate(field.getModifiers())) {
                seen.add(Modifier.toString(field.getModifiers()) + " " + field.getType() + " "
                        + field.getName());
            }
        }
        for (Constructor<?> constructor : SliceShares.class.getDeclaredConstructors()) {
            if (!Modifier.isPrivate(constructor.getModifiers())) {
                seen.add(Modifier.toString(constructor.getModifiers()) + " SliceShares"
                        + inBrackets(constructor.getParameterTypes())
                        + thrown(constructor.getExceptionTypes()));
            }
        }
        for (Method method : SliceShares.class.getDeclaredMethods()) {
            if (!Modifier.isPrivate(method.getModifiers())) {
                seen.add(Modifier.toString(method.getModifiers()) + " " + method.getReturnType()
                        + " " + method.getName() + inBrackets(method.getParameterTypes())
                        + thrown(method.getExceptionTypes()));
            }
        }
        return seen;
    }

    private static Set<String> hiddenNamesOfTheFace() {
        Set<String> open = new TreeSet<>();
        Set<String> hidden = new TreeSet<>();
        for (Method method : SliceShares.class.getDeclaredMethods()) {
            (Modifier.isPublic(method.getModifiers()) ? open : hidden).add(method.getName());
        }
        for (Class<?> inside : SliceShares.class.getDeclaredClasses()) {
            for (Method method : inside.getDeclaredMethods()) {
                if (Modifier.isPrivate(method.getModifiers())) {
                    hidden.add(method.getName());
                }
            }
        }
        hidden.retainAll(open);
        return hidden;
    }

    private static String inBrackets(Class<?>[] types) {
        return "(" + names(types) + ")";
    }

    private static String thrown(Class<?>[] types) {
        return types.length == 0 ? "" : " throws " + names(types);
    }

    private static String names(Class<?>[] types) {
        StringBuilder names = new StringBuilder();
        for (Class<?> type : types) {
            names.append(names.length() == 0 ? "" : ", ").append(type.getSimpleName());
        }
        return names.toString();
    }
}
