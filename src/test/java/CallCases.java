/** Boundary cases of promises 1 to 4: a new object, call, callOften, callHealthiest. */
public final class CallCases {
    private static final String ENDS =
            "it ends ahead of the first call that would be let through while 16 calls are on their way";
    private static final String TWENTY = "1,2,3,4,5,6,7,8,9,10,11,12,13,14,15,16,17,18,19,20";

    // ---- Promise 1: a new object

    @Case(promise = 1, says = "Creates closed breakers")
    static void newBreakersAreClosed() {
        BreakerTrials x = new BreakerTrials();
        for (int store = 0; store < 4; store++) {
            Checks.due("breaker of store " + store, x.store(store, 0), 0);
        }
        Checks.due("closed breakers", x.count(6), 4);
    }

    @Case(promise = 1, says = "with an empty buffer.")
    static void newBufferIsEmpty() {
        Checks.due("clearBuffer", new BreakerTrials().clearBuffer(), 0);
        Checks.due("append", new BreakerTrials().append('1'), 1);
    }

    @Case(promise = 1, says = "There are 4 stores, numbered from 0.")
    static void storesAre0To3() {
        BreakerTrials x = new BreakerTrials();
        for (int store = 0; store < 4; store++) {
            Checks.due("call", x.call(store), 1);
            Checks.due("the store that is called", x.onWay(store, 0), store);
        }
        Checks.dueThrow(x, "call(4)", () -> x.call(4), Checks.INDEX);
        Checks.dueThrow(x, "call(-1)", () -> x.call(-1), Checks.INDEX);
    }

    @Case(promise = 1, says = "at first the delay 5 alone")
    static void rowAtFirst() {
        BreakerTrials x = new BreakerTrials();
        for (int store = 0; store < 4; store++) {
            Checks.due("delay 0", x.delay(store, 0), 5);
            Checks.due("delay 1", x.delay(store, 1), BreakerTrials.NONE);
            Checks.due("the next delay", x.store(store, 10), 5);
        }
    }

    @Case(promise = 1, says = "Ticks are counted from 0.")
    static void noTickHasGoneAtFirst() {
        BreakerTrials x = new BreakerTrials();
        Checks.due("ticks", x.count(0), 0);
        x.pass(1);
        Checks.due("ticks", x.count(0), 1);
    }

    @Case(promise = 1, says = "0: the greatest delay that is not slow, 1 to 99, at first 20; "
            + "1: the window, 2 to 16, at first 4; 2: bad ones that are too many, 1 to 16, at first 2; "
            + "3: ticks of cutting off, 1 to 99, at first 10; 4: the most ticks of cutting off, 1 to 999, at first 80.")
    static void settingsAtFirst() {
        BreakerTrials x = new BreakerTrials();
        int[] want = {20, 4, 2, 10, 80};
        for (int setting = 0; setting < 5; setting++) {
            Checks.due("setting " + setting, x.setting(setting), want[setting]);
        }
    }

    @Case(promise = 1, says = "`NONE = -1`")
    static void noneIsMinusOne() {
        Checks.due("NONE", BreakerTrials.NONE, -1);
    }

    @Case(promise = 1, says = "Each store has a breaker")
    static void eachStoreHasItsOwn() {
        BreakerTrials x = Checks.cutOff("7");
        Checks.dueStore("called", x, 0, 1, 0, 0, 10, 10, 4, 0, 4, 0, 1, 7);
        for (int store = 1; store < 4; store++) {
            Checks.dueStore("never called", x, store, 0, 0, 0, 0, 0, 0, 0, 0, 0, 0, 5);
        }
    }

    @Case(promise = 1, says = "An object is used for at most 512 calls after it has been made")
    static void twoObjectsShareNothing() {
        BreakerTrials x = Checks.cutOff("7,8");
        Checks.type(x, "1,2");
        BreakerTrials y = new BreakerTrials();
        Checks.dueCounts("another object", y, 0, 0, 0, 0, 0, 0, 4, 0, 0);
        Checks.due("its buffer", y.clearBuffer(), 0);
        y.set(0, 99);
        Checks.due("the first one's setting", x.setting(0), 20);
        Checks.due("the first one's buffer", x.clearBuffer(), 3);
    }

    /** Promises 1 and 22: a whole life of dear calls; the 512th still answers by the document. */
    @Case(promise = 1, says = "An object is used for at most 512 calls after it has been made")
    static void the512thCall() {
        BreakerTrials x = new BreakerTrials();
        for (int made = 0; made < 510; made++) {
            x.callOften(3, 50, 50);
        }
        Checks.due("call 511: ticks", x.count(0), 510 * 50 * 50);
        Checks.due("call 512: calls of the store that were let through", x.store(3, 5), 510 * 50);
    }

    // ---- Promise 2: call

    @Case(promise = 2, says = "Throws `IndexOutOfBoundsException` if there is no such store")
    static void callOfNoStore() {
        BreakerTrials x = Checks.trying("0");
        int[] none = {-1, 4, Integer.MIN_VALUE, Integer.MAX_VALUE};
        for (int store : none) {
            Checks.dueThrow(x, "call(" + store + ")", () -> x.call(store), Checks.INDEX);
        }
    }

    @Case(promise = 2, says = "1: it is let through")
    static void letThrough() {
        BreakerTrials x = new BreakerTrials();
        Checks.due("call", x.call(2), 1);
        Checks.dueCounts("a call", x, 0, 1, 1, 0, 0, 0, 4, 0, 1);
        Checks.dueStore("a call", x, 2, 0, 0, 0, 0, 0, 1, 0, 0, 1, 0, 5);
        Checks.due("is no trial", x.onWay(0, 3), 0);
    }

    @Case(promise = 2, says = "2: it is let through as a trial.")
    static void letThroughAsTrial() {
        BreakerTrials x = Checks.trying("6,7");
        Checks.due("call", x.call(0), 2);
        Checks.dueCounts("a trial", x, 10, 1, 5, 0, 4, 0, 3, 1, 5);
        Checks.dueStore("a trial", x, 0, 2, 0, 0, 0, 10, 5, 0, 4, 1, 1, 7);
        Checks.due("is a trial", x.onWay(0, 3), 1);
    }

    @Case(promise = 2, says = "Returns 0: it is refused")
    static void refusedChangesOnlyTheRefused() {
        BreakerTrials x = Checks.cutOff("6,7");
        Checks.due("call", x.call(0), 0);
        Checks.dueStore("refused", x, 0, 1, 0, 0, 10, 10, 4, 1, 4, 0, 1, 6);
        Checks.dueCounts("refused", x, 0, 0, 4, 1, 4, 0, 3, 0, 4);
    }

    @Case(promise = 2, says = "Each method that is marked \"undoable\" and does not throw an exception "
            + "saves the state from before it")
    static void refusedCallIsUndoable() {
        BreakerTrials x = Checks.cutOff("6,7");
        x.call(0);
        Checks.due("undo", x.undo(), 3);
        Checks.due("refused so far", x.store(0, 6), 0);
        Checks.due("it still cuts off", x.store(0, 0), 1);
    }

    @Case(promise = 2, says = "Calls a store. Undoable.")
    static void callThatIsLetThroughIsUndoable() {
        BreakerTrials x = Checks.trying("6,7");
        long before = x.digest();
        x.call(0);
        x.call(1);
        Checks.due("undo", x.undo(), 5);
        Checks.due("undo", x.undo(), 4);
        Checks.due("digest", x.digest(), before);
    }

    @Case(promise = 2, says = "each call that is let through takes the next delay of the row")
    static void refusedTakesNoDelay() {
        BreakerTrials x = Checks.cutOff("6,7,8");
        x.callOften(0, 4, 0);
        Checks.due("the next delay", x.store(0, 10), 6);
        x.pass(10);
        x.call(0);
        Checks.due("the trial takes it", x.onWay(0, 2), 6);
        x.callOften(0, 3, 0);
        Checks.due("the ones behind the trial take none", x.store(0, 10), 7);
    }

    @Case(promise = 2, says = "and behind the last one the first one again")
    static void rowBeginsAgain() {
        BreakerTrials x = Checks.withRow(0, "6,7,8");
        int[] want = {6, 7, 8, 6, 7, 8, 6};
        for (int i = 0; i < want.length; i++) {
            Checks.due("the delay that the next call would take", x.store(0, 10), want[i]);
            x.call(0);
            Checks.due("the delay that it took", x.onWay(i, 2), want[i]);
        }
    }

    @Case(promise = 2, says = "A store has a row of 1 to 20 delays")
    static void rowOfOneBeginsAgain() {
        BreakerTrials x = Checks.withRow(0, "9");
        for (int i = 0; i < 4; i++) {
            x.call(0);
            Checks.due("the delay that it took", x.onWay(i, 2), 9);
            Checks.due("the next delay", x.store(0, 10), 9);
        }
    }

    @Case(promise = 2, says = "A store has a row of 1 to 20 delays")
    static void rowOfTwentyBeginsAgain() {
        BreakerTrials x = Checks.withRow(0, TWENTY);
        x.set(2, 16);
        for (int call = 0; call < 42; call++) {
            Checks.due("the next delay of call " + call, x.store(0, 10), call % 20 + 1);
            x.call(0);
            x.pass(call % 20 + 1);
        }
    }

    @Case(promise = 2, says = "A call with the delay 0 fails at once")
    static void delay0FailsAtOnce() {
        BreakerTrials x = Checks.withRow(0, "0,1");
        Checks.due("call", x.call(0), 1);
        Checks.dueCounts("failed at once", x, 0, 0, 1, 0, 1, 0, 4, 0, 2);
        Checks.due("outcomes in the window", x.store(0, 1), 1);
        Checks.due("bad ones", x.store(0, 2), 1);
    }

    @Case(promise = 2, says = "one with a delay d above 0 is on its way for d ticks, and is answered then")
    static void delay1IsAnsweredInTheNextTick() {
        BreakerTrials x = Checks.withRow(0, "1");
        x.call(0);
        Checks.dueCounts("on its way", x, 0, 1, 1, 0, 0, 0, 4, 0, 2);
        Checks.due("pass", x.pass(1), 1);
        Checks.dueCounts("answered", x, 1, 0, 1, 0, 0, 1, 4, 0, 3);
    }

    @Case(promise = 2, says = "0 to 99 each")
    static void delay99IsAnsweredInThe99thTick() {
        BreakerTrials x = Checks.withRow(0, "99");
        x.call(0);
        Checks.due("behind 98 ticks", x.pass(98), 0);
        Checks.due("ticks to go", x.onWay(0, 1), 1);
        Checks.due("in the 99th", x.pass(1), 1);
        Checks.due("on their way", x.count(1), 0);
    }

    @Case(promise = 2, says = "At most 16 calls are on their way at the same time, of all stores together.")
    static void the16thHasRoomTheNextHasNone() {
        BreakerTrials x = new BreakerTrials();
        for (int call = 0; call < 16; call++) {
            Checks.due("call " + call, x.call(call % 4), 1);
        }
        Checks.due("on their way", x.count(1), 16);
        for (int store = 0; store < 4; store++) {
            int called = store;
            Checks.dueThrow(x, "call " + store + " as the 17th", () -> x.call(called), Checks.STATE);
        }
    }

    @Case(promise = 2, says = "Throws `IllegalStateException` if it would be let through, "
            + "and 16 calls are on their way")
    static void roomComesBackWithAnAnswer() {
        BreakerTrials x = Checks.withRow(0, "1,99");
        x.call(0);
        Checks.fill(x);
        Checks.dueThrow(x, "call without room", () -> x.call(0), Checks.STATE);
        Checks.due("answered", x.pass(1), 1);
        Checks.due("the 16th again", x.call(0), 1);
        Checks.dueThrow(x, "call without room again", () -> x.call(0), Checks.STATE);
    }

    @Case(promise = 2, says = "(also if its delay is 0)")
    static void delay0WithoutRoom() {
        BreakerTrials x = Checks.full();
        Checks.row(x, 0, "0");
        Checks.dueThrow(x, "call with the delay 0", () -> x.call(0), Checks.STATE);
    }

    @Case(promise = 2, says = "(also if its delay is 0)")
    static void delay0With15OnTheirWay() {
        BreakerTrials x = Checks.withRow(0, "0");
        Checks.row(x, 1, "99");
        x.callOften(1, 15, 0);
        Checks.due("call with the delay 0", x.call(0), 1);
        Checks.due("needs no room itself", x.call(1), 1);
    }

    @Case(promise = 2, says = "if it would be let through, and 16 calls are on their way")
    static void trialWithoutRoom() {
        BreakerTrials x = Checks.fill(Checks.trying("3,0"));
        Checks.dueThrow(x, "trial", () -> x.call(0), Checks.STATE);
        BreakerTrials y = Checks.fill(Checks.trying("0"));
        Checks.dueThrow(y, "trial with the delay 0", () -> y.call(0), Checks.STATE);
    }

    @Case(promise = 2, says = "if it would be let through, and 16 calls are on their way")
    static void refusedNeedsNoRoom() {
        BreakerTrials x = Checks.fill(Checks.cutOff("3"));
        Checks.due("call of one that cuts off", x.call(0), 0);
        BreakerTrials y = Checks.trying("50");
        y.call(0);
        Checks.fill(y);
        Checks.due("16 with the trial", y.count(1), 16);
        Checks.due("call while the trial is on its way", y.call(0), 0);
    }

    @Case(promise = 2, says = Cases.FIRST_NAMED)
    static void noStoreAndNoRoom() {
        BreakerTrials x = Checks.full();
        Checks.dueThrow(x, "call(4)", () -> x.call(4), Checks.INDEX);
        Checks.dueThrow(x, "call(-1)", () -> x.call(-1), Checks.INDEX);
    }

    // ---- Promise 3: callOften

    @Case(promise = 3, says = "Throws `IndexOutOfBoundsException` if there is no such store")
    static void callOftenOfNoStore() {
        BreakerTrials x = Checks.full();
        int[] none = {-1, 4, Integer.MIN_VALUE, Integer.MAX_VALUE};
        for (int store : none) {
            Checks.dueThrow(x, "callOften(" + store + ", 1, 0)", () -> x.callOften(store, 1, 0), Checks.INDEX);
        }
    }

    @Case(promise = 3, says = Cases.FIRST_NAMED)
    static void callOftenOfNoStoreNoTimes() {
        BreakerTrials x = new BreakerTrials();
        Checks.dueThrow(x, "callOften(4, 0, 0)", () -> x.callOften(4, 0, 0), Checks.INDEX);
        Checks.dueThrow(x, "callOften(-1, 1, 51)", () -> x.callOften(-1, 1, 51), Checks.INDEX);
    }

    @Case(promise = 3, says = "`times`: 1 to 50")
    static void timesTooFewOrTooMany() {
        BreakerTrials x = new BreakerTrials();
        int[] odd = {0, 51, -1, Integer.MIN_VALUE, Integer.MAX_VALUE};
        for (int times : odd) {
            Checks.dueThrow(x, "callOften(0, " + times + ", 0)", () -> x.callOften(0, times, 0), Checks.ARGUMENT);
        }
    }

    @Case(promise = 3, says = "`times`: 1 to 50")
    static void oneTimeAndFiftyTimes() {
        BreakerTrials x = new BreakerTrials();
        Checks.due("callOften(0, 1, 3)", x.callOften(0, 1, 3), 1);
        Checks.due("ticks", x.count(0), 3);
        Checks.due("callOften(0, 50, 1)", x.callOften(0, 50, 1), 50);
        Checks.due("let through so far", x.store(0, 5), 51);
        Checks.due("ticks", x.count(0), 53);
    }

    @Case(promise = 3, says = "`ticks`: 0 to 50")
    static void ticksTooFewOrTooMany() {
        BreakerTrials x = new BreakerTrials();
        int[] odd = {-1, 51, Integer.MIN_VALUE, Integer.MAX_VALUE};
        for (int ticks : odd) {
            Checks.dueThrow(x, "callOften(0, 1, " + ticks + ")", () -> x.callOften(0, 1, ticks), Checks.ARGUMENT);
        }
    }

    @Case(promise = 3, says = "`ticks`: 0 to 50")
    static void noTicksAndFiftyTicks() {
        BreakerTrials x = new BreakerTrials();
        Checks.due("callOften(0, 2, 0)", x.callOften(0, 2, 0), 2);
        Checks.due("ticks", x.count(0), 0);
        Checks.due("on their way", x.count(1), 2);
        Checks.due("callOften(0, 2, 50)", x.callOften(0, 2, 50), 2);
        Checks.due("ticks", x.count(0), 100);
        Checks.due("on their way", x.count(1), 0);
    }

    @Case(promise = 3, says = "lets ticks pass behind each call")
    static void ticksPassBehindTheLastAndTheRefusedToo() {
        BreakerTrials x = Checks.cutOff("3");
        Checks.due("all are refused", x.callOften(0, 3, 3), 0);
        Checks.due("ticks", x.count(0), 9);
        Checks.due("ticks for which it is still cut off", x.store(0, 3), 1);
        Checks.due("refused so far", x.store(0, 6), 3);
    }

    @Case(promise = 3, says = ENDS)
    static void endsAheadOfThe17th() {
        BreakerTrials x = Checks.withRow(2, "99");
        Checks.due("callOften", x.callOften(2, 50, 2), 16);
        Checks.due("ticks behind the calls that were made", x.count(0), 32);
        Checks.due("the ones that were not made are not refused", x.count(3), 0);
        Checks.due("on their way", x.count(1), 16);
    }

    @Case(promise = 3, says = ENDS)
    static void endsAheadOfTheFirst() {
        BreakerTrials x = Checks.full();
        long saved = x.count(8);
        Checks.due("callOften", x.callOften(0, 50, 50), 0);
        Checks.due("ticks", x.count(0), 0);
        Checks.due("a state is saved", x.count(8), saved + 1);
        Checks.row(x, 0, "0");
        Checks.due("with the delay 0, too", x.callOften(0, 1, 1), 0);
        Checks.due("nothing is let through", x.store(0, 5), 0);
    }

    @Case(promise = 3, says = ENDS)
    static void refusedCallsGoOnUntilTheTrialHasNoRoom() {
        BreakerTrials x = Checks.fill(Checks.cutOff("3"));
        Checks.due("callOften", x.callOften(0, 50, 2), 0);
        Checks.due("refused until it tries", x.store(0, 6), 5);
        Checks.due("ticks", x.count(0), 10);
        Checks.due("it tries", x.store(0, 0), 2);
    }

    @Case(promise = 3, says = ENDS)
    static void goesOnIfTicksMakeRoom() {
        BreakerTrials x = Checks.withRow(0, "16");
        Checks.due("never more than 16", x.callOften(0, 50, 1), 50);
        BreakerTrials y = Checks.withRow(0, "17");
        Checks.due("16 behind 16 ticks", y.callOften(0, 50, 1), 16);
    }

    @Case(promise = 3, says = "Undoable, as one call")
    static void callOftenIsUndoneAsOne() {
        BreakerTrials x = Checks.withRow(0, "0,3");
        long before = x.digest();
        x.callOften(0, 50, 1);
        Checks.due("saved states", x.count(8), 2);
        Checks.due("undo", x.undo(), 1);
        Checks.due("digest", x.digest(), before);
    }

    @Case(promise = 3, says = "Returns how many are let through.")
    static void trialsAreLetThroughToo() {
        BreakerTrials x = Checks.trying("0");
        Checks.due("the trial, and one refused", x.callOften(0, 2, 0), 1);
        Checks.due("refused", x.store(0, 6), 1);
    }

    // ---- Promise 4: callHealthiest

    /** Every store is cut off by four slow calls, or tries by now; 80 ticks have gone, 5 states are saved. */
    private static BreakerTrials noneClosed() {
        BreakerTrials x = new BreakerTrials();
        x.set(0, 1);
        for (int store = 0; store < 4; store++) {
            x.callOften(store, 4, 5);
        }
        return x;
    }

    @Case(promise = 4, says = "NONE if there is none (then nothing is called")
    static void callHealthiestWithoutAClosedOne() {
        BreakerTrials x = noneClosed();
        Checks.due("the first one tries, the last one cuts off", x.store(0, 0) * 10 + x.store(3, 0), 21);
        Checks.due("callHealthiest", x.callHealthiest(), BreakerTrials.NONE);
        Checks.dueCounts("nothing is called", x, 80, 0, 16, 0, 16, 0, 0, 0, 6);
    }

    @Case(promise = 4, says = "but a state is saved).")
    static void callHealthiestWithoutAClosedOneSaves() {
        BreakerTrials x = noneClosed();
        long before = x.digest();
        x.callHealthiest();
        Checks.due("undo", x.undo(), 5);
        Checks.due("digest", x.digest(), before);
        x.undo();
        Checks.due("the state of the call before", x.count(6), 1);
    }

    @Case(promise = 4, says = "Calls the healthiest store, by healthiest(). Undoable.")
    static void callHealthiestIsUndoable() {
        BreakerTrials x = new BreakerTrials();
        x.call(0);
        long before = x.digest();
        Checks.due("callHealthiest", x.callHealthiest(), 1);
        Checks.due("undo", x.undo(), 1);
        Checks.due("digest", x.digest(), before);
    }

    @Case(promise = 4, says = "Returns the store;")
    static void callHealthiestOfOneClosedStore() {
        BreakerTrials x = noneClosed();
        x.close(3);
        Checks.due("callHealthiest", x.callHealthiest(), 3);
        Checks.due("on its way", x.store(3, 8), 1);
    }

    @Case(promise = 4, says = "Throws `IllegalStateException` if 16 calls are on their way")
    static void callHealthiestHasRoomForThe16th() {
        BreakerTrials x = new BreakerTrials();
        for (int call = 0; call < 16; call++) {
            Checks.due("callHealthiest " + call, x.callHealthiest(), call % 4);
        }
        Checks.dueThrow(x, "callHealthiest as the 17th", x::callHealthiest, Checks.STATE);
    }

    @Case(promise = 4, says = "Throws `IllegalStateException` if 16 calls are on their way")
    static void callHealthiestWithDelay0WithoutRoom() {
        BreakerTrials x = Checks.full();
        Checks.row(x, 0, "0");
        Checks.due("the healthiest", x.healthiest(), 0);
        Checks.dueThrow(x, "callHealthiest", x::callHealthiest, Checks.STATE);
    }

    @Case(promise = 4, says = "Throws `IllegalStateException` if 16 calls are on their way")
    static void callHealthiestWithoutRoomAndWithoutAClosedOne() {
        BreakerTrials x = new BreakerTrials();
        Checks.row(x, 3, "99,99,99,99,99,99,99,99,99,99,99,99,99,99,99,0,0,0,0,99");
        for (int store = 0; store < 3; store++) {
            Checks.row(x, store, "0");
            x.callOften(store, 4, 0);
        }
        x.callOften(3, 19, 0);
        Checks.due("none is closed", x.healthiest(), BreakerTrials.NONE);
        Checks.due("with 15 it is NONE", x.callHealthiest(), BreakerTrials.NONE);
        x.pass(10);
        Checks.due("a trial is the 16th", x.call(3), 2);
        Checks.due("none is closed", x.healthiest(), BreakerTrials.NONE);
        Checks.dueThrow(x, "callHealthiest", x::callHealthiest, Checks.STATE);
    }

    public static void main(String[] args) throws Exception {
        Cases.run(CallCases.class, 1, 4);
    }
}
