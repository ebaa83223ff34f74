/** Boundary cases of promises 8 to 12: append, clearBuffer, firstError, delays, undo. */
public final class TextCases {
    private static final String TWENTY = "10,11,12,13,14,15,16,17,18,19,20,21,22,23,24,25,26,27,28,99";
    private static final String TWENTY_OF_ONE = "0,1,2,3,4,5,6,7,8,9,0,1,2,3,4,5,6,7,8,9";

    private static BreakerTrials typed(String text) {
        BreakerTrials x = new BreakerTrials();
        Checks.type(x, text);
        return x;
    }

    private static void dueError(String text, int want) {
        BreakerTrials x = typed(text);
        Checks.due("firstError of \"" + text + "\"", x.firstError(), want);
    }

    /** The text is taken as a row, and these are its delays. */
    private static void dueRow(String text, int... want) {
        BreakerTrials x = typed(text);
        Checks.due("delays of \"" + text + "\"", x.delays(2), 1);
        for (int place = 0; place < want.length; place++) {
            Checks.due("delay " + place + " of \"" + text + "\"", x.delay(2, place), want[place]);
        }
        Checks.due("delay behind the last one", x.delay(2, want.length), BreakerTrials.NONE);
    }

    private static void dueNoRow(String text) {
        BreakerTrials x = typed(text);
        Checks.dueThrow(x, "delays of \"" + text + "\"", () -> x.delays(2), Checks.ARGUMENT);
    }

    // ---- Promise 8: append

    @Case(promise = 8, says = "Throws `IllegalArgumentException` if code is not 33 to 126")
    static void codeTooSmallOrTooLarge() {
        BreakerTrials x = typed("5");
        int[] odd = {32, 127, 0, -1, 256 + '5', 65536 + '5', Integer.MIN_VALUE, Integer.MAX_VALUE};
        for (int code : odd) {
            Checks.dueThrow(x, "append(" + code + ")", () -> x.append(code), Checks.ARGUMENT);
        }
    }

    @Case(promise = 8, says = "`code`: the character code, 33 to 126")
    static void code33AndCode126() {
        BreakerTrials x = new BreakerTrials();
        Checks.due("append(33)", x.append(33), 1);
        Checks.due("append(126)", x.append(126), 2);
    }

    @Case(promise = 8, says = "The buffer has at most 60 characters.")
    static void the60thCharacterHasRoom() {
        BreakerTrials x = new BreakerTrials();
        for (int length = 1; length <= 60; length++) {
            Checks.due("append", x.append('1'), length);
        }
    }

    @Case(promise = 8, says = "Throws `IllegalStateException` if the buffer has 60 characters")
    static void the61stCharacterHasNone() {
        BreakerTrials x = typed("1".repeat(60));
        Checks.dueThrow(x, "append('1')", () -> x.append('1'), Checks.STATE);
        Checks.dueThrow(x, "append(33)", () -> x.append(33), Checks.STATE);
        Checks.dueThrow(x, "append(126)", () -> x.append(126), Checks.STATE);
        Checks.due("the length", x.clearBuffer(), 60);
        Checks.due("append behind clearBuffer", x.append('1'), 1);
    }

    @Case(promise = 8, says = Cases.FIRST_NAMED)
    static void codeTooSmallAndNoRoom() {
        BreakerTrials x = typed("1".repeat(60));
        Checks.dueThrow(x, "append(32)", () -> x.append(32), Checks.ARGUMENT);
        Checks.dueThrow(x, "append(127)", () -> x.append(127), Checks.ARGUMENT);
    }

    @Case(promise = 8, says = "Appends a character to the buffer.")
    static void appendIsNotUndoable() {
        BreakerTrials x = typed("1,2");
        Checks.due("saved states", x.count(8), 0);
        Checks.dueThrow(x, "undo", x::undo, Checks.STATE);
    }

    // ---- Promise 9: clearBuffer

    @Case(promise = 9, says = "Returns the length that it had.")
    static void clearEmptyBuffer() {
        BreakerTrials x = new BreakerTrials();
        long before = x.digest();
        Checks.due("clearBuffer", x.clearBuffer(), 0);
        Checks.due("digest", x.digest(), before);
    }

    @Case(promise = 9, says = "Returns the length that it had.")
    static void clearFullBuffer() {
        BreakerTrials x = typed("~".repeat(60));
        Checks.due("clearBuffer", x.clearBuffer(), 60);
        Checks.due("clearBuffer again", x.clearBuffer(), 0);
        Checks.due("digest of an empty one", x.digest(), new BreakerTrials().digest());
    }

    @Case(promise = 9, says = "Clears the buffer.")
    static void clearedCharactersDoNotComeBack() {
        BreakerTrials x = typed("x,y");
        x.clearBuffer();
        Checks.type(x, "4,5");
        Checks.due("firstError", x.firstError(), 3);
        Checks.due("delays", x.delays(0), 1);
        Checks.due("delay 1", x.delay(0, 1), 5);
    }

    @Case(promise = 9, says = "Clears the buffer.")
    static void clearIsNotUndoable() {
        BreakerTrials x = typed("1,2");
        x.clearBuffer();
        Checks.due("saved states", x.count(8), 0);
    }

    // ---- Promise 10: firstError

    @Case(promise = 10, says = "the length of the buffer if there is none.")
    static void errorOfAnEmptyBuffer() {
        dueError("", 0);
    }

    @Case(promise = 10, says = "the length of the buffer if there is none.")
    static void noError() {
        dueError("7", 1);
        dueError("7,", 2);
        dueError("7,42,0", 6);
        dueError(TWENTY, 59);
    }

    @Case(promise = 10, says = "Returns the index of the first character that is a syntax error")
    static void errorAtTheFirstCharacter() {
        dueError(",", 0);
        dueError("x", 0);
        dueError("-1", 0);
        dueError("+1", 0);
        dueError(",1,2", 0);
    }

    @Case(promise = 10, says = "Returns the index of the first character that is a syntax error")
    static void firstOfSeveralErrors() {
        dueError("1,2x,y", 3);
        dueError("1,,,", 2);
        dueError("5,100,200", 4);
    }

    @Case(promise = 10, says = "Returns the index of the first character that is a syntax error")
    static void errorAtTheLastCharacter() {
        dueError("1,2,3;", 5);
        dueError("1,2,,", 4);
        dueError("1,2,3-", 5);
    }

    @Case(promise = 10, says = "0 to 99, without leading zeros")
    static void leadingZeros() {
        dueError("0", 1);
        dueError("00", 1);
        dueError("05", 1);
        dueError("0,00", 3);
        dueError("10", 2);
        dueError("1,0,2", 5);
    }

    @Case(promise = 10, says = "numbers, 0 to 99")
    static void numbersOfThreeDigits() {
        dueError("9", 1);
        dueError("10", 2);
        dueError("99", 2);
        dueError("100", 2);
        dueError("990", 2);
        dueError("1,999", 4);
    }

    @Case(promise = 10, says = "with \",\" between them")
    static void commasThatAreNotBetween() {
        dueError("1,", 2);
        dueError("1,,2", 2);
        dueError(",1", 0);
        dueError("1;2", 1);
        dueError("1.2", 1);
    }

    @Case(promise = 10, says = "Delays as a text are 1 to 20 numbers")
    static void commaBehindTheTwentiethNumber() {
        dueError(TWENTY_OF_ONE, 39);
        dueError(TWENTY_OF_ONE + ",", 39);
        dueError(TWENTY_OF_ONE + ",5", 39);
        dueError(TWENTY_OF_ONE.substring(0, 38), 38);
        dueError(TWENTY + ",", 59);
    }

    @Case(promise = 10, says = "a character is a syntax error if no delays as a text begin with "
            + "the characters before it and this character")
    static void charactersBesideTheDigits() {
        dueError("/", 0);
        dueError("0", 1);
        dueError("9", 1);
        dueError(":", 0);
        dueError("1/", 1);
        dueError("1:", 1);
        dueError("1+", 1);
        dueError("1-", 1);
        dueError("1!", 1);
        dueError("1~", 1);
    }

    @Case(promise = 10, says = "The buffer has at most 60 characters.")
    static void errorsOfAFullBuffer() {
        dueError(TWENTY + "1", 59);
        dueError(TWENTY + ",", 59);
        dueError("1".repeat(60), 2);
        dueError("~".repeat(60), 0);
    }

    @Case(promise = 10, says = "Finds the first syntax error of the buffer.")
    static void firstErrorChangesNothing() {
        BreakerTrials x = typed("1,2x");
        long before = x.digest();
        x.firstError();
        Checks.due("digest", x.digest(), before);
        Checks.due("the same again", x.firstError(), 3);
    }

    // ---- Promise 11: delays

    @Case(promise = 11, says = "Throws `IndexOutOfBoundsException` if there is no such store")
    static void delaysOfNoStore() {
        BreakerTrials x = typed("1,2");
        int[] none = {-1, 4, Integer.MIN_VALUE, Integer.MAX_VALUE};
        for (int store : none) {
            Checks.dueThrow(x, "delays(" + store + ")", () -> x.delays(store), Checks.INDEX);
        }
        Checks.due("the buffer is not cleared", x.clearBuffer(), 3);
    }

    @Case(promise = 11, says = Cases.FIRST_NAMED)
    static void delaysOfNoStoreAndNoText() {
        BreakerTrials x = new BreakerTrials();
        Checks.dueThrow(x, "delays(4) of nothing", () -> x.delays(4), Checks.INDEX);
        Checks.type(x, "1,");
        Checks.dueThrow(x, "delays(-1) of 1,", () -> x.delays(-1), Checks.INDEX);
    }

    @Case(promise = 11, says = "Throws `IllegalArgumentException` if the buffer is not complete delays as a text")
    static void delaysOfAnEmptyBuffer() {
        dueNoRow("");
    }

    @Case(promise = 11, says = "Throws `IllegalArgumentException` if the buffer is not complete delays as a text")
    static void delaysOfATextThatWantsANumber() {
        dueNoRow("1,");
        dueNoRow("99,0,");
        dueNoRow(TWENTY_OF_ONE.substring(0, 38));
    }

    @Case(promise = 11, says = "Throws `IllegalArgumentException` if the buffer is not complete delays as a text")
    static void delaysOfATextWithAnError() {
        dueNoRow("x");
        dueNoRow("1,2x");
        dueNoRow("1,,2");
        dueNoRow(",1");
        dueNoRow("05");
        dueNoRow("100");
        BreakerTrials x = typed("1,2x");
        Checks.dueThrow(x, "delays of 1,2x", () -> x.delays(0), Checks.ARGUMENT);
        Checks.due("the buffer is not cleared", x.clearBuffer(), 4);
        Checks.due("no state is saved", x.count(8), 0);
    }

    @Case(promise = 11, says = "Delays as a text are 1 to 20 numbers")
    static void rowsOfOneAndOfTwenty() {
        dueRow("7", 7);
        dueRow(TWENTY, 10, 11, 12, 13, 14, 15, 16, 17, 18, 19, 20, 21, 22, 23, 24, 25, 26, 27, 28, 99);
        dueRow(TWENTY_OF_ONE, 0, 1, 2, 3, 4, 5, 6, 7, 8, 9, 0, 1, 2, 3, 4, 5, 6, 7, 8, 9);
        dueNoRow(TWENTY_OF_ONE + ",1");
        dueNoRow(TWENTY_OF_ONE + ",");
    }

    @Case(promise = 11, says = "numbers, 0 to 99")
    static void leastAndGreatestDelay() {
        dueRow("0", 0);
        dueRow("99", 99);
        dueRow("0,99,10,9", 0, 99, 10, 9);
        dueNoRow("0,100");
    }

    @Case(promise = 11, says = "Returns how many delays the row had.")
    static void delaysReturnsTheFormerLength() {
        BreakerTrials x = typed(TWENTY);
        Checks.due("delays behind the first row", x.delays(0), 1);
        Checks.type(x, "5");
        Checks.due("delays behind a row of 20", x.delays(0), 20);
        Checks.type(x, "6,7");
        Checks.due("delays behind a row of 1", x.delays(0), 1);
        Checks.type(x, "6");
        Checks.due("another store has its own", x.delays(1), 1);
    }

    @Case(promise = 11, says = "Gives a store the delays in the buffer as its row, from the first one on")
    static void shorterRowBehindALongOne() {
        BreakerTrials x = Checks.withRow(0, "1,2,3,4,5");
        x.callOften(0, 4, 0);
        Checks.row(x, 0, "8,9");
        Checks.due("the next delay", x.store(0, 10), 8);
        Checks.due("delay 2", x.delay(0, 2), BreakerTrials.NONE);
        Checks.row(x, 0, "6,7,8");
        Checks.due("delay 2 of the longer one", x.delay(0, 2), 8);
        Checks.due("from the first one on", x.store(0, 10), 6);
    }

    @Case(promise = 11, says = "and clears the buffer.")
    static void delaysClearsTheBuffer() {
        BreakerTrials x = typed("1,2");
        x.delays(3);
        Checks.due("clearBuffer", x.clearBuffer(), 0);
        Checks.dueThrow(x, "delays again", () -> x.delays(3), Checks.ARGUMENT);
    }

    @Case(promise = 11, says = "each call that is let through takes the next delay of the row")
    static void callsOnTheirWayKeepTheirDelay() {
        BreakerTrials x = Checks.withRow(0, "30");
        x.call(0);
        Checks.row(x, 0, "1");
        Checks.due("its delay", x.onWay(0, 2), 30);
        Checks.due("answered behind it", x.pass(29), 0);
        x.pass(1);
        Checks.due("slow by it", x.count(4), 1);
    }

    @Case(promise = 11, says = "saves the state from before it (also if it changes nothing): "
            + "all, also what is counted so far, but the buffer and the saved states.")
    static void undoOfDelaysLeavesTheBuffer() {
        BreakerTrials x = Checks.withRow(0, "5,6,7");
        x.callOften(0, 2, 0);
        Checks.row(x, 0, "8");
        Checks.due("undo", x.undo(), 2);
        Checks.due("the row", x.delay(0, 2), 7);
        Checks.due("its place", x.store(0, 10), 7);
        Checks.due("the buffer stays empty", x.clearBuffer(), 0);
    }

    // ---- Promise 12: undo

    @Case(promise = 12, says = "Throws `IllegalStateException` if there is none")
    static void undoOfNone() {
        BreakerTrials x = new BreakerTrials();
        Checks.dueThrow(x, "undo of a new object", x::undo, Checks.STATE);
        x.pass(1);
        Checks.due("undo", x.undo(), 0);
        Checks.dueThrow(x, "undo behind the last one", x::undo, Checks.STATE);
    }

    @Case(promise = 12, says = "At most 6 states are saved")
    static void sixAreSavedASeventhDropsOne() {
        BreakerTrials x = new BreakerTrials();
        for (int call = 1; call <= 9; call++) {
            x.pass(1);
            Checks.due("saved states behind " + call, x.count(8), Math.min(call, 6));
        }
    }

    @Case(promise = 12, says = "the oldest one is dropped first.")
    static void oldestIsDropped() {
        BreakerTrials x = new BreakerTrials();
        for (int call = 0; call < 6; call++) {
            x.pass(1);
        }
        Checks.due("six saved", x.count(8), 6);
        x.pass(1);
        for (int left = 5; left >= 0; left--) {
            Checks.due("undo", x.undo(), left);
            Checks.due("ticks", x.count(0), left + 1);
        }
        Checks.dueThrow(x, "the first state is dropped: undo", x::undo, Checks.STATE);
    }

    @Case(promise = 12, says = "Restores the latest saved state, and drops it.")
    static void undoAndSaveByTurns() {
        BreakerTrials x = new BreakerTrials();
        for (int call = 0; call < 8; call++) {
            x.pass(1);
        }
        x.undo();
        x.undo();
        x.undo();
        Checks.due("ticks", x.count(0), 5);
        for (int call = 0; call < 5; call++) {
            x.pass(10);
        }
        Checks.due("saved states", x.count(8), 6);
        int[] want = {45, 35, 25, 15, 5, 4};
        for (int i = 0; i < 6; i++) {
            Checks.due("undo", x.undo(), 5 - i);
            Checks.due("ticks", x.count(0), want[i]);
        }
        Checks.dueThrow(x, "undo behind the last one", x::undo, Checks.STATE);
    }

    @Case(promise = 12, says = "(also if it changes nothing)")
    static void whatChangesNothingIsSaved() {
        BreakerTrials x = Checks.full();
        Checks.due("delays, callOften", x.count(8), 2);
        x.close(0);
        Checks.due("close of a closed one", x.count(8), 3);
        x.set(0, 20);
        Checks.due("set to what it is", x.count(8), 4);
        x.callOften(0, 1, 0);
        Checks.due("callOften without room", x.count(8), 5);
        Checks.row(x, 0, "5");
        Checks.due("delays as they are", x.count(8), 6);
    }

    @Case(promise = 12, says = "Each method that is marked \"undoable\"")
    static void whatIsNotMarkedSavesNothing() {
        BreakerTrials x = Checks.withRow(0, "5");
        x.append('1');
        x.firstError();
        x.clearBuffer();
        x.store(0, 0);
        x.delay(0, 0);
        x.onWay(0, 0);
        x.setting(0);
        x.ifCalled(0, 1, 0, 0);
        x.freeIn(0);
        x.healthiest();
        x.health();
        x.digest();
        Checks.due("saved states", x.count(8), 1);
        Checks.due("undo", x.undo(), 0);
    }

    @Case(promise = 12, says = "A call that throws an exception changes nothing.")
    static void whatThrowsSavesNothingAndDropsNothing() {
        BreakerTrials x = Checks.full();
        x.pass(1);
        x.pass(1);
        x.pass(1);
        x.pass(1);
        Checks.due("six saved", x.count(8), 6);
        Checks.dueThrow(x, "call(0)", () -> x.call(0), Checks.STATE);
        Checks.dueThrow(x, "callOften(0, 0, 0)", () -> x.callOften(0, 0, 0), Checks.ARGUMENT);
        Checks.dueThrow(x, "callHealthiest()", x::callHealthiest, Checks.STATE);
        Checks.dueThrow(x, "close(4)", () -> x.close(4), Checks.INDEX);
        Checks.dueThrow(x, "set(0, 0)", () -> x.set(0, 0), Checks.ARGUMENT);
        Checks.dueThrow(x, "pass(0)", () -> x.pass(0), Checks.ARGUMENT);
        Checks.dueThrow(x, "delays(0)", () -> x.delays(0), Checks.ARGUMENT);
        int[] ticks = {3, 2, 1, 0, 0, 0};
        int[] onWay = {16, 16, 16, 16, 0, 0};
        for (int i = 0; i < 6; i++) {
            x.undo();
            Checks.due("ticks", x.count(0), ticks[i]);
            Checks.due("on their way", x.count(1), onWay[i]);
        }
        Checks.due("the first row again", x.delay(1, 0), 5);
    }

    @Case(promise = 12, says = "all, also what is counted so far")
    static void undoBringsBackWhatIsCounted() {
        BreakerTrials x = Checks.trying("0,1,7");
        x.call(0);
        Checks.due("saved", x.count(8), 5);
        x.undo();
        Checks.dueCounts("back", x, 10, 0, 4, 0, 4, 0, 3, 0, 4);
        Checks.dueStore("back", x, 0, 2, 0, 0, 0, 10, 4, 0, 4, 0, 1, 0);
        x.undo();
        Checks.dueCounts("back before the ticks", x, 0, 0, 4, 0, 4, 0, 3, 0, 3);
        Checks.dueStore("back before the ticks", x, 0, 1, 0, 0, 10, 10, 4, 0, 4, 0, 1, 0);
    }

    @Case(promise = 12, says = "but the buffer")
    static void undoLeavesTheBuffer() {
        BreakerTrials x = typed("1,2");
        x.pass(1);
        Checks.type(x, ",3");
        x.undo();
        Checks.due("firstError", x.firstError(), 5);
        Checks.due("the length", x.clearBuffer(), 5);
    }

    @Case(promise = 12, says = "Returns how many saved states are left.")
    static void undoIsNotUndoable() {
        BreakerTrials x = new BreakerTrials();
        x.pass(1);
        x.pass(1);
        Checks.due("undo", x.undo(), 1);
        Checks.due("saved states", x.count(8), 1);
        Checks.due("undo", x.undo(), 0);
        Checks.due("saved states", x.count(8), 0);
        Checks.due("digest of a new object", x.digest(), new BreakerTrials().digest());
    }

    @Case(promise = 12, says = "Restores the latest saved state")
    static void undoBringsBackTheWindowAndWhatIsKnown() {
        BreakerTrials x = new BreakerTrials();
        x.set(1, 16);
        Checks.bring(x, 0, "bggb");
        x.close(0);
        x.undo();
        Checks.dueStore("the window", x, 0, 0, 4, 2, 0, 0, 4, 0, 2, 0, 0, 0);
        x.set(1, 3);
        Checks.due("bad ones of the last three", x.store(0, 2), 1);
    }

    @Case(promise = 12, says = "Restores the latest saved state")
    static void undoBringsBackWhichCallsCount() {
        BreakerTrials x = Checks.withRow(0, "7");
        x.call(0);
        x.close(0);
        x.undo();
        x.pass(7);
        Checks.due("let through since it was closed", x.store(0, 1), 1);
    }

    @Case(promise = 12, says = "Restores the latest saved state")
    static void undoBringsBackTheCallsOnTheirWay() {
        BreakerTrials x = Checks.trying("9");
        x.call(3);
        x.pass(2);
        x.call(0);
        x.pass(20);
        x.call(1);
        x.undo();
        x.undo();
        int[] want = {3, 3, 5, 0, 0, 9, 9, 1};
        for (int i = 0; i < want.length; i++) {
            Checks.due("onWay(" + i / 4 + ", " + i % 4 + ")", x.onWay(i / 4, i % 4), want[i]);
        }
        Checks.due("no third", x.onWay(2, 0), BreakerTrials.NONE);
    }

    public static void main(String[] args) throws Exception {
        Cases.run(TextCases.class, 8, 12);
    }
}
