import java.util.function.Consumer;

/** Promises 28 to 32: the text and its commands. */
public final class TextTest extends Sentences {
    private static final String LENGTH_AFTERWARDS = "Returns the length of the text afterwards.";
    private static final String CODES = "the codes of the characters, each 33 to 126";
    private static final String FIRST_ERROR =
            "of the first character that cannot follow the characters before it";
    private static final String INCOMPLETE =
            "the length of the text if it is incomplete (also if it is empty)";
    private static final String BETWEEN = "holds commands with \";\" between them";
    private static final String ONE_DIGIT = "Plates are one digit, 0 to 9";
    private static final String NUMBERS = "other numbers 0 to 9999 without leading zeros";
    private static final String FAILS =
            "A command fails if the method that does the same would throw an exception.";
    private static final String UP_TO_THE_FIRST =
            "Executes the commands of the text in order, up to the first one that fails";
    private static final String HAS_AN_ERROR =
            "Throws `IllegalStateException` if the text has an error";
    private static final String NO_CODE = "throws.IllegalArgumentException";
    private static final String[] PAIR_LETTERS = {"+", "-", "*", "c"};

    /** 79 characters. */
    private static final String SIXTEEN_PAIRS = "c0,1;".repeat(15) + "c0,2";

    /** 80 characters. */
    private static final String FIFTEEN_COMMANDS =
            "s0=1/2;s1=1/3;s2=1/4;" + "c0,5;".repeat(11) + "c0,4";

    public static void main(String[] args) {
        new TextTest().run();
    }

    private static Consumer<SliceShares> text(String text) {
        return x -> {
            x.clearText();
            append(x, text);
        };
    }

    // ---- promise 28

    void appendTextOf1To8Characters() {
        says(28, "Appends up to 8 characters to the text.");
        due(1, x -> x.appendText('s'));
        due(9, x -> x.appendText(packed("0=10/20;")));
        due(16, x -> x.appendText(packed("s1=1/20")));
        due(-1, x -> x.textError());
        due(2, x -> x.runText());
        holds(0, 1, 2);
        holds(1, 1, 20);
    }

    void appendTextTakesTheLowestBitsLast() {
        says(28, "The lowest 8 bits of the number are the last character, the next 8 bits the one");
        due(4, x -> x.appendText(0x2B302C31L));
        due(-1, x -> x.textError());
        x.clearText();
        due(4, x -> x.appendText(0x312C302BL));
        due(0, x -> x.textError());
    }

    void appendTextTellsTheLengthAfterwards() {
        says(28, LENGTH_AFTERWARDS);
        for (int length = 1; length <= 8; length++) {
            int due = length;
            x = new SliceShares();
            due(due, x -> x.appendText(packed("+0,1;+0,".substring(0, due))));
            due(due + 1, x -> x.appendText(packed("+")));
        }
    }

    private static boolean isCode(int number) {
        return number >= 33 && number <= 126;
    }

    void appendTextOfTheCodes33To126() {
        says(28, CODES);
        for (int shift = 0; shift < 64; shift += 8) {
            long others = packed("aaaaaaaa") & ~(255L << shift);
            for (int code = 1; code < 256; code++) {
                long characters = others | (long) code << shift;
                x = new SliceShares();
                due(isCode(code) ? 8 : NO_CODE, x -> x.appendText(characters));
            }
        }
    }

    void appendTextOfOneCode() {
        says(28, CODES);
        for (int code = 1; code < 256; code++) {
            long character = code;
            x = new SliceShares();
            due(isCode(code) ? 1 : NO_CODE, x -> x.appendText(character));
        }
    }

    void appendTextOfACodeOutOfRangeChangesNothing() {
        says(28, "a code is out of range");
        for (long code : new long[] {1, 32, 127, 128, 255}) {
            refused(ARGUMENT, x -> x.appendText(code));
            refused(ARGUMENT, x -> x.appendText(packed(";c0,1") << 8 | code));
            refused(ARGUMENT, x -> x.appendText(code << 40 | packed(";c0,1")));
            refused(ARGUMENT, x -> x.appendText(code << 56 | packed(";c0,1;s")));
        }
        refused(ARGUMENT, x -> x.appendText(-1));
        refused(ARGUMENT, x -> x.appendText(Long.MAX_VALUE));
    }

    void appendTextOfNoCharacter() {
        says(28, "Throws `IllegalArgumentException` if there is no character");
        refused(ARGUMENT, x -> x.appendText(0));
        refused(ARGUMENT, x -> x.appendText(packed("s") << 8));
        refused(ARGUMENT, x -> x.appendText(packed("s") << 56));
        refused(ARGUMENT, x -> x.appendText(Long.MIN_VALUE));
    }

    void appendTextOfBitsAboveTheEnd() {
        says(28, "that is 0 ends the characters, and all higher bits must be 0");
        for (int bit = 16; bit < 64; bit++) {
            long above = 1L << bit;
            refused(ARGUMENT, x -> x.appendText(above | packed(";")));
        }
        refused(ARGUMENT, x -> x.appendText(1L << 63 | packed(";c0,1;")));
        refused(ARGUMENT, x -> x.appendText(1L << 56 | packed(";c0,1;")));
        refused(ARGUMENT, x -> x.appendText(packed(";") << 16 | packed(";")));
    }

    void appendTextUpTo80() {
        says(28, "Throws `IllegalStateException` if the text would be longer than 80 characters");
        type("+0,1;+0,".repeat(9));
        due(79, x -> x.appendText(packed("1234567")));
        due(80, x -> x.appendText(packed("8")));
        x.clearText();
        type("+0,1;+0,".repeat(9));
        due(80, x -> x.appendText(packed("12345678")));
    }

    void appendTextBeyond80() {
        says(28, "Throws `IllegalStateException` if the text would be longer than 80 characters");
        refused(STATE, text(FIFTEEN_COMMANDS), x -> x.appendText(packed(";")));
        refused(STATE, text(FIFTEEN_COMMANDS), x -> x.appendText(packed(";c0,1;c0")));
        refused(STATE, text(SIXTEEN_PAIRS), x -> x.appendText(packed(";c")));
        refused(STATE, text(SIXTEEN_PAIRS), x -> x.appendText(packed(";c0,1;c0")));
        String of73 = "c0,1;".repeat(13) + "s3=11/15";
        refused(STATE, text(of73), x -> x.appendText(packed(";c0,1;c0")));
    }

    void appendTextThrowsTheFirst() {
        says(28, THE_FIRST);
        refused(ARGUMENT, text(FIFTEEN_COMMANDS), x -> x.appendText(0));
        refused(ARGUMENT, text(FIFTEEN_COMMANDS), x -> x.appendText(32));
        refused(ARGUMENT, text(FIFTEEN_COMMANDS), x -> x.appendText(1L << 63 | packed(";")));
    }

    // ---- promises 29 and 30

    void clearTextTellsTheLength() {
        says(29, "Returns the length that it had.");
        due(0, x -> x.clearText());
        type("c0,1x");
        due(5, x -> x.clearText());
        due(0, x -> x.clearText());
        type(FIFTEEN_COMMANDS);
        due(80, x -> x.clearText());
        due(0, x -> x.textLength());
    }

    void clearTextEmptiesTheText() {
        says(29, "Empties the text.");
        type("s0=1/");
        x.clearText();
        due(0, x -> x.textError());
        type("c0,1");
        due(-1, x -> x.textError());
        due(1, x -> x.runText());
    }

    void clearTextMakesRoomFor80() {
        says(29, "Empties the text.");
        type(FIFTEEN_COMMANDS);
        x.clearText();
        type(FIFTEEN_COMMANDS);
        due(80, x -> x.textLength());
    }

    void textLengthFrom0To80() {
        says(30, "Returns the length of the text.");
        due(0, x -> x.textLength());
        for (int length = 1; length <= 80; length++) {
            int want = length;
            x.appendText('x');
            due(want, x -> x.textLength());
        }
        due("throws.IllegalStateException", x -> x.appendText('x'));
        due(80, x -> x.textLength());
    }

    // ---- promise 31

    private void error(int want, String text) {
        x = new SliceShares();
        type(text);
        due(want, x -> x.textError());
    }

    private void correct(String... texts) {
        for (String text : texts) {
            error(-1, text);
        }
    }

    private void incomplete(String... texts) {
        for (String text : texts) {
            error(text.length(), text);
        }
    }

    void emptyTextIsIncomplete() {
        says(31, INCOMPLETE);
        due(0, x -> x.textError());
        type("c0,1");
        x.runText();
        due(0, x -> x.textError());
    }

    void eachBeginningOfACommandIsIncomplete() {
        says(31, INCOMPLETE);
        incomplete("s", "s0", "s0=", "s0=1", "s0=12", "s0=123", "s0=1234", "s0=1/");
        incomplete("s0=0", "s0=0/", "s0=1234/");
        for (String letter : PAIR_LETTERS) {
            incomplete(letter, letter + "0", letter + "0,");
            incomplete("s0=1/2;" + letter, "s0=1/2;" + letter + "0", "s0=1/2;" + letter + "0,");
        }
        incomplete("c0,1;s", "c0,1;s0", "c0,1;s0=", "c0,1;s0=1", "c0,1;s0=1/");
    }

    void textThatEndsBehindASemicolonIsIncomplete() {
        says("Text", BETWEEN);
        incomplete("c0,1;", "s0=1/2;", "s0=1/2;c0,1;");
    }

    void fullTextThatIsIncomplete() {
        says(31, INCOMPLETE);
        error(80, "c0,1;".repeat(16));
        error(80, "c0,1;".repeat(15) + "s0=1/");
    }

    void fullTextThatIsCorrect() {
        says(31, "NONE if the text is correct");
        correct(FIFTEEN_COMMANDS, SIXTEEN_PAIRS);
    }

    void fullTextWithItsErrorAtTheEnd() {
        says(31, FIRST_ERROR);
        error(79, SIXTEEN_PAIRS + "x");
        error(79, SIXTEEN_PAIRS + "0");
        error(79, "c0,1;".repeat(15) + "c0,2,");
    }

    void textOfEachCommandIsCorrect() {
        says(31, "NONE if the text is correct");
        correct("s0=1/2", "+0,1", "-0,1", "*0,1", "c0,1");
        correct("+0,1;-1,0", "s0=1/2;s1=3/4;c0,1", "*0,0;s0=100/1000", "s0=1/2;s0=1/2");
    }

    void firstCharacterIsALetterOfACommand() {
        says(31, FIRST_ERROR);
        for (char sign = 33; sign < 127; sign++) {
            error("s+-*c".indexOf(sign) >= 0 ? 1 : 0, "" + sign);
        }
        error(0, "xs0=1/2");
    }

    void platesAreOneDigit() {
        says("Text", ONE_DIGIT);
        for (char sign = 33; sign < 127; sign++) {
            boolean digit = sign >= '0' && sign <= '9';
            error(digit ? 2 : 1, "s" + sign);
            error(digit ? 2 : 1, "+" + sign);
            error(digit ? -1 : 3, "c0," + sign);
        }
        correct("s0=1/2", "s9=1/2");
        error(2, "s00=1/2");
        error(2, "s10=1/2");
        for (String letter : PAIR_LETTERS) {
            correct(letter + "0,0", letter + "9,9");
            error(2, letter + "10,1");
            error(4, letter + "1,10");
        }
    }

    void onlyItsSignStandsBehindAPlate() {
        says(31, FIRST_ERROR);
        for (char sign = 33; sign < 127; sign++) {
            error(sign == '=' ? 3 : 2, "s0" + sign);
            error(sign == ',' ? 3 : 2, "c0" + sign);
            error(sign == ';' ? 5 : 4, "c0,1" + sign);
        }
        error(2, "s0,1");
        error(2, "-0=1/2");
    }

    void numbersAre0To9999() {
        says("Text", NUMBERS);
        correct("s0=0/0", "s0=9/9", "s0=10/10", "s0=999/999", "s0=1000/1000", "s0=9999/9999");
        error(7, "s0=10000/1");
        error(7, "s0=99990/1");
        error(9, "s0=1/10000");
        error(9, "s0=1/99999");
        error(-1, "s0=1/9999");
    }

    void numbersHaveNoLeadingZeros() {
        says("Text", NUMBERS);
        error(4, "s0=00/1");
        error(4, "s0=01/1");
        error(6, "s0=1/00");
        error(6, "s0=1/01");
        error(6, "s0=0/01");
        correct("s0=0/1", "s0=1/0", "s0=100/200");
    }

    void numbersHaveADigit() {
        says("Text", NUMBERS);
        error(3, "s0=/1");
        error(3, "s0=;");
        error(5, "s0=1/;");
        error(5, "s0=1//");
        error(3, "s0=-1/2");
        error(3, "s0=+1/2");
    }

    void onlyItsSignsStandBehindANumber() {
        says(31, FIRST_ERROR);
        for (char sign = 33; sign < 127; sign++) {
            boolean digit = sign >= '0' && sign <= '9';
            error(digit || sign == '/' ? 5 : 4, "s0=1" + sign);
            error(digit ? -1 : sign == ';' ? 7 : 6, "s0=1/2" + sign);
            error(sign == '/' ? 8 : 7, "s0=1234" + sign);
            error(sign == ';' ? 10 : 9, "s0=1/1234" + sign);
            error(sign == '/' ? 5 : 4, "s0=0" + sign);
            error(sign == ';' ? 7 : 6, "s0=1/0" + sign);
        }
    }

    void semicolonsStandBetweenCommands() {
        says("Text", BETWEEN);
        error(0, ";");
        error(0, ";c0,1");
        error(5, "c0,1;;");
        error(7, "s0=1/2;;c0,1");
        error(4, "c0,1c0,1");
        error(6, "s0=1/2s0=1/2");
        for (char sign = 33; sign < 127; sign++) {
            error("s+-*c".indexOf(sign) >= 0 ? 6 : 5, "c0,1;" + sign);
        }
    }

    void errorIsTheFirst() {
        says(31, FIRST_ERROR);
        error(0, "xx");
        error(4, "c0,1x;x");
        error(9, "c0,1;c0,1x;y");
        error(1, "c;c0,1");
    }

    // ---- promise 32

    private void runs(int executed, String text) {
        type(text);
        due(executed, x -> x.runText());
        due(0, x -> x.textLength());
    }

    void runTextExecutesEachCommand() {
        says("Text", "from the first to the second");
        runs(1, "s0=6/8");
        holds(0, 3, 4);
        runs(1, "c0,1");
        holds(1, 3, 4);
        runs(1, "s1=1/6");
        runs(1, "+0,1");
        holds(0, 11, 12);
        holds(1, 1, 6);
        runs(1, "-0,1");
        holds(0, 3, 4);
        runs(1, "*0,1");
        holds(0, 1, 8);
        holds(1, 1, 6);
    }

    private void changesEachTwoByText(String letter, int[] plateHolds, int[] otherHolds) {
        changesEachTwo(plateHolds, otherHolds, (x, plate, other) -> {
            append(x, letter + plate + "," + other);
            return x.runText();
        });
    }

    void runTextExecutesCommandsOfEachPlate() {
        says("Text", "add (the second one to the first)");
        changesEachPlate(2, 5, (x, plate) -> {
            append(x, "s" + plate + "=4/10");
            return x.runText();
        });
        changesEachTwoByText("+", new int[] {11, 12}, new int[] {1, 6});
        changesEachTwoByText("-", new int[] {7, 12}, new int[] {1, 6});
        changesEachTwoByText("*", new int[] {1, 8}, new int[] {1, 6});
        changesEachTwoByText("c", new int[] {3, 4}, new int[] {3, 4});
    }

    void runTextExecutesInOrder() {
        says(32, UP_TO_THE_FIRST);
        runs(4, "s1=1/6;+0,1;*0,0;c0,2");
        holds(0, 1, 36);
        holds(1, 1, 6);
        holds(2, 1, 36);
    }

    void runTextOfTheMostCommands() {
        says(32, "Returns how many commands were executed.");
        x.set(0, 1, 7);
        runs(16, SIXTEEN_PAIRS);
        holds(1, 1, 7);
        holds(2, 1, 7);
        runs(15, FIFTEEN_COMMANDS);
        holds(0, 1, 2);
        holds(2, 1, 4);
        holds(4, 1, 2);
    }

    void runTextWhoseFirstCommandFails() {
        says(32, UP_TO_THE_FIRST);
        runs(0, "s0=1/0");
        runs(0, "s0=1/0;s0=1/2");
        holds(0, 0, 1);
    }

    void runTextWhoseLastCommandFails() {
        says(32, UP_TO_THE_FIRST);
        runs(2, "s0=1/2;s1=1/3;-1,0");
        holds(0, 1, 2);
        holds(1, 1, 3);
    }

    void runTextWithoutWhatStandsBehindTheFirstThatFails() {
        says(32, UP_TO_THE_FIRST);
        runs(1, "s0=1/2;s6=1/3;s1=1/5;s1=1/0");
        holds(0, 1, 2);
        holds(1, 0, 1);
    }

    /** The last command of the text fails, so that the one put behind it is not executed. */
    private void lastFails(int executed, String text) {
        x = new SliceShares();
        runs(executed, text + ";s5=1/9");
        holds(5, 0, 1);
    }

    private void allSucceed(int executed, String text) {
        x = new SliceShares();
        runs(executed + 1, text + ";s5=1/9");
        holds(5, 1, 9);
    }

    void runTextKnowsPlates0To5() {
        says(32, FAILS);
        allSucceed(2, "s0=1/7;s5=1/7");
        for (int plate = 6; plate <= 9; plate++) {
            lastFails(0, "s" + plate + "=1/7");
            for (String letter : PAIR_LETTERS) {
                lastFails(0, letter + plate + ",0");
                lastFails(0, letter + "0," + plate);
                lastFails(0, letter + plate + "," + plate);
            }
        }
        for (String letter : PAIR_LETTERS) {
            allSucceed(3, letter + "0,5;" + letter + "5,0;" + letter + "5,5");
        }
    }

    void runTextSetsNumbers0To9999() {
        says(32, FAILS);
        runs(2, "s0=0/9999;s1=9999/1");
        holds(0, 0, 1);
        holds(1, 9999, 1);
        runs(2, "s0=1/9999;s1=9999/1000");
        holds(0, 1, 9999);
        holds(1, 9999, 1000);
        lastFails(0, "s0=1/0");
        lastFails(0, "s0=0/0");
        lastFails(0, "s0=9999/0");
    }

    void runTextAddsUpToTheGreatest() {
        says(32, FAILS);
        x.set(0, 999999, 1);
        x.set(1, 1, 1);
        runs(1, "+0,1;+0,1;s5=1/9");
        holds(0, 1000000, 1);
        holds(5, 0, 1);
        allSucceed(4, "s0=1/64;s1=1/125;*1,1;+0,1");
        holds(0, 15689, 1000000);
        lastFails(2, "s0=1/101;s1=1/9901;+0,1");
    }

    void runTextTakesAwayAsMuch() {
        says(32, FAILS);
        allSucceed(3, "s0=1/2;s1=1/2;-0,1");
        holds(0, 0, 1);
        lastFails(2, "s0=1/2;s1=5001/9999;-0,1");
        holds(0, 1, 2);
        lastFails(2, "s0=1/101;s1=1/9901;-0,1");
        holds(0, 1, 101);
    }

    void runTextMultipliesUpToTheGreatest() {
        says(32, FAILS);
        allSucceed(2, "s0=1000/1;*0,0");
        holds(0, 1000000, 1);
        allSucceed(2, "s0=1/1000;*0,0");
        holds(0, 1, 1000000);
        lastFails(2, "s0=101/1;s1=9901/1;*0,1");
        lastFails(2, "s0=1/101;s1=1/9901;*0,1");
    }

    void runTextCopiesToItself() {
        says(32, FAILS);
        allSucceed(2, "s0=1/7;c0,0");
        holds(0, 1, 7);
    }

    void runTextThenEmptiesTheText() {
        says(32, "and then empties the text");
        runs(1, "s0=1/2");
        due("throws.IllegalStateException", x -> x.runText());
        runs(0, "s6=1/2");
        runs(0, "s6=1/2;s0=1/3;s0=1/4");
        due(0, x -> x.textError());
        due(0, x -> x.clearText());
        holds(0, 1, 2);
    }

    void runTextIsOneChange() {
        says(32, "This is one change, however many commands are executed.");
        x.set(0, 1, 9);
        runs(4, "s0=1/2;s1=1/3;s2=1/4;s0=1/5");
        due(2, x -> x.undoCount());
        due(1, x -> x.undo());
        holds(0, 1, 9);
        holds(1, 0, 1);
        holds(2, 0, 1);
        runs(16, SIXTEEN_PAIRS);
        due(2, x -> x.undoCount());
    }

    void runTextIsOneChangeIfNothingIsExecuted() {
        says(32, "This is one change, however many commands are executed.");
        x.set(0, 1, 9);
        runs(0, "s0=1/0");
        due(2, x -> x.undoCount());
        due(1, x -> x.undo());
        holds(0, 1, 9);
        runs(1, "s0=1/2;s0=1/0");
        due(2, x -> x.undoCount());
        due(1, x -> x.undo());
        holds(0, 1, 9);
    }

    void runTextOfAnEmptyText() {
        says(32, HAS_AN_ERROR);
        refused(STATE, x -> x.clearText(), x -> x.runText());
    }

    void runTextOfAnIncompleteText() {
        says(32, HAS_AN_ERROR);
        refused(STATE, text("s"), x -> x.runText());
        refused(STATE, text("s0=1/2;"), x -> x.runText());
        refused(STATE, text("s0=1/2;+0"), x -> x.runText());
        refused(STATE, text("c0,1;".repeat(16)), x -> x.runText());
        type("s0=1/2;");
        due("throws.IllegalStateException", x -> x.runText());
        runs(2, "c0,1");
        holds(1, 1, 2);
    }

    void runTextOfAWrongText() {
        says(32, HAS_AN_ERROR);
        refused(STATE, text("x"), x -> x.runText());
        refused(STATE, text("s0=1/2x"), x -> x.runText());
        refused(STATE, text("s0=1/2;x"), x -> x.runText());
        refused(STATE, text("s0=1/2;s1=1/3;s0=01/2"), x -> x.runText());
        refused(STATE, text("x;s0=1/2"), x -> x.runText());
        refused(STATE, text(SIXTEEN_PAIRS + "x"), x -> x.runText());
    }
}
