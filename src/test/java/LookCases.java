/** Boundary cases of promises 13 to 17: store, delay, onWay, count, setting. */
public final class LookCases {
    private static final int[] NO_STORE = {-1, 4, Integer.MIN_VALUE, Integer.MAX_VALUE};

    /** Store 0 tries, its trial is on its way for 30 ticks; 10 ticks have gone. */
    private static BreakerTrials withTrial() {
        BreakerTrials x = Checks.trying("30,6");
        x.call(0);
        return x;
    }

    // ---- Promise 13: store

    @Case(promise = 13, says = "Throws `IndexOutOfBoundsException` if there is no such store")
    static void storeOfNoStore() {
        BreakerTrials x = withTrial();
        for (int store : NO_STORE) {
            Checks.dueThrow(x, "store(" + store + ", 0)", () -> x.store(store, 0), Checks.INDEX);
            Checks.dueThrow(x, "store(" + store + ", 10)", () -> x.store(store, 10), Checks.INDEX);
        }
    }

    @Case(promise = 13, says = "Throws `IllegalArgumentException` if what is not 0 to 10")
    static void storeOfNoNumber() {
        BreakerTrials x = withTrial();
        int[] odd = {-1, 11, Integer.MIN_VALUE, Integer.MAX_VALUE};
        for (int what : odd) {
            Checks.dueThrow(x, "store(0, " + what + ")", () -> x.store(0, what), Checks.ARGUMENT);
            Checks.dueThrow(x, "store(3, " + what + ")", () -> x.store(3, what), Checks.ARGUMENT);
        }
    }

    @Case(promise = 13, says = Cases.FIRST_NAMED)
    static void storeOfNoStoreAndNoNumber() {
        BreakerTrials x = new BreakerTrials();
        Checks.dueThrow(x, "store(4, 11)", () -> x.store(4, 11), Checks.INDEX);
        Checks.dueThrow(x, "store(-1, -1)", () -> x.store(-1, -1), Checks.INDEX);
    }

    @Case(promise = 13, says = "0: its breaker, 0 to 2;")
    static void breakerOfAStore() {
        Checks.due("closed", new BreakerTrials().store(3, 0), 0);
        Checks.due("cuts off", Checks.cutOff("5").store(0, 0), 1);
        Checks.due("tries", Checks.trying("5").store(0, 0), 2);
        Checks.due("tries, with a trial on its way", withTrial().store(0, 0), 2);
    }

    @Case(promise = 13, says = "1: outcomes in its window, 0 if it is not closed;")
    static void outcomesInTheWindow() {
        BreakerTrials x = new BreakerTrials();
        for (int outcomes = 1; outcomes <= 6; outcomes++) {
            Checks.bring(x, 2, "g");
            Checks.due("behind " + outcomes, x.store(2, 1), Math.min(outcomes, 4));
        }
        Checks.due("cuts off", Checks.cutOff("5").store(0, 1), 0);
        Checks.due("tries", Checks.trying("5").store(0, 1), 0);
        Checks.due("tries, with a trial on its way", withTrial().store(0, 1), 0);
    }

    @Case(promise = 13, says = "2: of these bad ones;")
    static void badOnesInTheWindow() {
        BreakerTrials x = new BreakerTrials();
        x.set(2, 16);
        int[] want = {1, 2, 2, 2, 1, 0};
        String outcomes = "bbgggg";
        for (int i = 0; i < want.length; i++) {
            Checks.bring(x, 2, outcomes.substring(i, i + 1));
            Checks.due("behind " + (i + 1), x.store(2, 2), want[i]);
        }
        Checks.due("cuts off", Checks.cutOff("5").store(0, 2), 0);
        Checks.due("tries", Checks.trying("5").store(0, 2), 0);
    }

    @Case(promise = 13, says = "3: ticks for which it is still cut off, 0 if it is not;")
    static void ticksLeft() {
        BreakerTrials x = Checks.cutOff("30");
        Checks.due("at first", x.store(0, 3), 10);
        x.pass(9);
        Checks.due("the last one", x.store(0, 3), 1);
        x.pass(1);
        Checks.due("tries", x.store(0, 3), 0);
        x.pass(1);
        Checks.due("tries, behind a tick more", x.store(0, 3), 0);
        x.call(0);
        Checks.due("a trial is on its way", x.store(0, 3), 0);
        Checks.due("closed", new BreakerTrials().store(0, 3), 0);
    }

    @Case(promise = 13, says = "4: ticks for which it was cut off the last time, "
            + "0 if it never was since it was closed;")
    static void ticksOfTheLastCut() {
        Checks.due("never", new BreakerTrials().store(0, 4), 0);
        BreakerTrials x = Checks.trying("0,5");
        Checks.due("tries", x.store(0, 4), 10);
        x.callOften(0, 1, 20);
        Checks.due("the second time", x.store(0, 4), 20);
        x.callOften(0, 1, 4);
        Checks.due("a trial is on its way", x.store(0, 4), 20);
        x.pass(1);
        Checks.due("closed by it", x.store(0, 4), 0);
        BreakerTrials y = Checks.cutOff("5");
        y.close(0);
        Checks.due("closed by hand", y.store(0, 4), 0);
    }

    @Case(promise = 13, says = "5: calls that were let through so far; 6: those that were refused so far; "
            + "7: bad outcomes so far;")
    static void numbersSoFarGoOnWhenItIsClosed() {
        BreakerTrials x = Checks.cutOff("5");
        x.callOften(0, 3, 0);
        x.close(0);
        Checks.dueStore("closed", x, 0, 0, 0, 0, 0, 0, 4, 3, 4, 0, 1, 5);
        x.call(0);
        Checks.due("let through", x.store(0, 5), 5);
    }

    @Case(promise = 13, says = "8: calls on their way;")
    static void onTheirWayOfEachStore() {
        BreakerTrials x = Checks.full();
        Checks.due("of the one that is called", x.store(1, 8), 16);
        Checks.due("of another one", x.store(0, 8), 0);
        x.pass(98);
        Checks.due("before the last tick", x.store(1, 8), 16);
        x.pass(1);
        Checks.due("behind it", x.store(1, 8), 0);
        Checks.due("a trial is one", withTrial().store(0, 8), 1);
    }

    @Case(promise = 13, says = "9: how often it was cut off so far;")
    static void howOftenCutOff() {
        Checks.due("never", new BreakerTrials().store(0, 9), 0);
        BreakerTrials x = Checks.cutOff("0");
        Checks.due("once", x.store(0, 9), 1);
        x.callOften(0, 3, 10);
        Checks.due("again by a trial", x.store(0, 9), 2);
        x.close(0);
        Checks.due("closed by hand", x.store(0, 9), 2);
    }

    @Case(promise = 13, says = "10: the delay that the next call would take")
    static void nextDelay() {
        BreakerTrials x = Checks.withRow(0, "99,0");
        Checks.due("the first", x.store(0, 10), 99);
        x.call(0);
        Checks.due("the last", x.store(0, 10), 0);
        x.call(0);
        Checks.due("the first again", x.store(0, 10), 99);
        Checks.due("while it cuts off", Checks.cutOff("7,8").store(0, 10), 7);
        Checks.due("while a trial is on its way", withTrial().store(0, 10), 6);
    }

    // ---- Promise 14: delay

    @Case(promise = 14, says = "Throws `IndexOutOfBoundsException` if there is no such store")
    static void delayOfNoStore() {
        BreakerTrials x = new BreakerTrials();
        for (int store : NO_STORE) {
            Checks.dueThrow(x, "delay(" + store + ", 0)", () -> x.delay(store, 0), Checks.INDEX);
            Checks.dueThrow(x, "delay(" + store + ", 99)", () -> x.delay(store, 99), Checks.INDEX);
        }
    }

    @Case(promise = 14, says = "Throws `IllegalArgumentException` if place is below 0")
    static void delayBelow0() {
        BreakerTrials x = new BreakerTrials();
        Checks.dueThrow(x, "delay(0, -1)", () -> x.delay(0, -1), Checks.ARGUMENT);
        Checks.dueThrow(x, "delay(3, MIN)", () -> x.delay(3, Integer.MIN_VALUE), Checks.ARGUMENT);
    }

    @Case(promise = 14, says = Cases.FIRST_NAMED)
    static void delayOfNoStoreBelow0() {
        BreakerTrials x = new BreakerTrials();
        Checks.dueThrow(x, "delay(4, -1)", () -> x.delay(4, -1), Checks.INDEX);
        Checks.dueThrow(x, "delay(-1, -1)", () -> x.delay(-1, -1), Checks.INDEX);
    }

    @Case(promise = 14, says = "Returns the delay, NONE if there are not so many.")
    static void delayBehindTheLastOne() {
        BreakerTrials x = Checks.withRow(0, "7,0,9");
        int[] want = {7, 0, 9, BreakerTrials.NONE, BreakerTrials.NONE};
        for (int place = 0; place < want.length; place++) {
            Checks.due("delay " + place, x.delay(0, place), want[place]);
        }
        Checks.due("delay 20", x.delay(0, 20), BreakerTrials.NONE);
        Checks.due("delay MAX", x.delay(0, Integer.MAX_VALUE), BreakerTrials.NONE);
    }

    @Case(promise = 14, says = "Returns the delay, NONE if there are not so many.")
    static void delayOfAFullRow() {
        BreakerTrials x = Checks.withRow(3, "1,2,3,4,5,6,7,8,9,10,11,12,13,14,15,16,17,18,19,99");
        Checks.due("delay 0", x.delay(3, 0), 1);
        Checks.due("delay 19", x.delay(3, 19), 99);
        Checks.due("delay 20", x.delay(3, 20), BreakerTrials.NONE);
        Checks.due("delay 21", x.delay(3, 21), BreakerTrials.NONE);
    }

    @Case(promise = 14, says = "`place`: its place, from 0")
    static void placesDoNotMoveWithTheCalls() {
        BreakerTrials x = Checks.withRow(0, "7,8");
        x.call(0);
        Checks.due("delay 0", x.delay(0, 0), 7);
        Checks.due("delay 1", x.delay(0, 1), 8);
    }

    // ---- Promise 15: onWay

    @Case(promise = 15, says = "Throws `IllegalArgumentException` if place is below 0, or what is not 0 to 3")
    static void onWayBelow0() {
        BreakerTrials x = Checks.full();
        Checks.dueThrow(x, "onWay(-1, 0)", () -> x.onWay(-1, 0), Checks.ARGUMENT);
        Checks.dueThrow(x, "onWay(MIN, 3)", () -> x.onWay(Integer.MIN_VALUE, 3), Checks.ARGUMENT);
        Checks.dueThrow(x, "onWay(-1, 4)", () -> x.onWay(-1, 4), Checks.ARGUMENT);
    }

    @Case(promise = 15, says = "or what is not 0 to 3")
    static void onWayOfNoNumber() {
        BreakerTrials x = Checks.full();
        int[] odd = {-1, 4, 5, Integer.MIN_VALUE, Integer.MAX_VALUE};
        for (int what : odd) {
            Checks.dueThrow(x, "onWay(0, " + what + ")", () -> x.onWay(0, what), Checks.ARGUMENT);
            Checks.dueThrow(x, "onWay(16, " + what + ")", () -> x.onWay(16, what), Checks.ARGUMENT);
        }
    }

    @Case(promise = 15, says = "Returns the number, NONE if there are not so many.")
    static void onWayWithoutCalls() {
        BreakerTrials x = new BreakerTrials();
        for (int what = 0; what < 4; what++) {
            Checks.due("onWay(0, " + what + ")", x.onWay(0, what), BreakerTrials.NONE);
            Checks.due("onWay(MAX, " + what + ")", x.onWay(Integer.MAX_VALUE, what), BreakerTrials.NONE);
        }
        x.call(3);
        Checks.due("onWay(0, 0)", x.onWay(0, 0), 3);
        Checks.due("onWay(1, 0)", x.onWay(1, 0), BreakerTrials.NONE);
    }

    @Case(promise = 15, says = "Returns the number, NONE if there are not so many.")
    static void onWayOfSixteenCalls() {
        BreakerTrials x = Checks.full();
        Checks.due("onWay(15, 0)", x.onWay(15, 0), 1);
        Checks.due("onWay(15, 1)", x.onWay(15, 1), 99);
        for (int what = 0; what < 4; what++) {
            Checks.due("onWay(16, " + what + ")", x.onWay(16, what), BreakerTrials.NONE);
        }
        x.pass(99);
        Checks.due("onWay(0, 0) when they are answered", x.onWay(0, 0), BreakerTrials.NONE);
    }

    @Case(promise = 15, says = "in the order in which they were let through")
    static void onWayInTheOrderOfTheCalls() {
        BreakerTrials x = new BreakerTrials();
        int[] stores = {3, 1, 2, 0, 3};
        for (int store : stores) {
            x.call(store);
        }
        for (int place = 0; place < stores.length; place++) {
            Checks.due("store of " + place, x.onWay(place, 0), stores[place]);
        }
    }

    @Case(promise = 15, says = "1: ticks that it has to go; 2: its delay;")
    static void ticksToGoAreNeverNone() {
        BreakerTrials x = Checks.withRow(0, "3");
        x.call(0);
        for (int left = 3; left >= 1; left--) {
            Checks.due("ticks to go", x.onWay(0, 1), left);
            Checks.due("its delay", x.onWay(0, 2), 3);
            x.pass(1);
        }
        Checks.due("answered", x.onWay(0, 1), BreakerTrials.NONE);
    }

    @Case(promise = 15, says = "3: 1 if it is a trial, otherwise 0")
    static void onWayTellsTrials() {
        BreakerTrials x = withTrial();
        x.call(1);
        Checks.due("a trial", x.onWay(0, 3), 1);
        Checks.due("an ordinary one", x.onWay(1, 3), 0);
        x.close(0);
        Checks.due("closed by hand", x.onWay(0, 3), 0);
    }

    // ---- Promise 16: count

    @Case(promise = 16, says = "Throws `IllegalArgumentException` if what is not 0 to 8")
    static void countOfNoNumber() {
        BreakerTrials x = Checks.full();
        int[] odd = {-1, 9, Integer.MIN_VALUE, Integer.MAX_VALUE};
        for (int what : odd) {
            Checks.dueThrow(x, "count(" + what + ")", () -> x.count(what), Checks.ARGUMENT);
        }
    }

    @Case(promise = 16, says = "0: the ticks that have gone; 1: calls on their way; "
            + "2: calls that were let through so far; 3: those that were refused so far; "
            + "4: bad outcomes so far; 5: good outcomes so far; 6: breakers that are closed; "
            + "7: trials so far; 8: saved states")
    static void countsOfANewObject() {
        Checks.dueCounts("new", new BreakerTrials(), 0, 0, 0, 0, 0, 0, 4, 0, 0);
    }

    @Case(promise = 16, says = "1: calls on their way;")
    static void countOfSixteen() {
        BreakerTrials x = Checks.full();
        Checks.due("16 on their way", x.count(1), 16);
        x.pass(99);
        Checks.due("none", x.count(1), 0);
    }

    @Case(promise = 16, says = "2: calls that were let through so far; 3: those that were refused so far; "
            + "4: bad outcomes so far; 5: good outcomes so far;")
    static void countsOfAllStores() {
        BreakerTrials x = new BreakerTrials();
        for (int store = 0; store < 4; store++) {
            Checks.bring(x, store, "gbbb");
            x.call(store);
        }
        Checks.dueCounts("of all stores", x, 4, 0, 16, 4, 12, 4, 0, 0, 6);
    }

    @Case(promise = 16, says = "6: breakers that are closed;")
    static void countOfClosedBreakers() {
        BreakerTrials x = new BreakerTrials();
        for (int store = 0; store < 4; store++) {
            Checks.bring(x, store, "bbbb");
            Checks.due("closed behind store " + store, x.count(6), 3 - store);
        }
        x.pass(10);
        Checks.due("those that try are not closed", x.count(6), 0);
        x.close(2);
        Checks.due("one is closed by hand", x.count(6), 1);
    }

    @Case(promise = 16, says = "7: trials so far;")
    static void countOfTrials() {
        BreakerTrials x = Checks.trying("0,0,5");
        Checks.due("it tries", x.count(7), 0);
        x.call(0);
        Checks.due("failed at once", x.count(7), 1);
        x.pass(20);
        x.call(0);
        x.pass(40);
        x.call(0);
        x.call(0);
        Checks.due("the refused one behind it is none", x.count(7), 3);
        x.close(0);
        Checks.due("closed by hand", x.count(7), 3);
    }

    @Case(promise = 16, says = "8: saved states")
    static void countOfSavedStates() {
        BreakerTrials x = new BreakerTrials();
        for (int call = 1; call <= 8; call++) {
            x.call(0);
            Checks.due("behind " + call, x.count(8), Math.min(call, 6));
        }
        x.undo();
        Checks.due("behind undo", x.count(8), 5);
    }

    // ---- Promise 17: setting

    @Case(promise = 17, says = "Throws `IndexOutOfBoundsException` if there is no such setting")
    static void settingOfNoSetting() {
        BreakerTrials x = new BreakerTrials();
        int[] none = {-1, 5, Integer.MIN_VALUE, Integer.MAX_VALUE};
        for (int setting : none) {
            Checks.dueThrow(x, "setting(" + setting + ")", () -> x.setting(setting), Checks.INDEX);
        }
    }

    @Case(promise = 17, says = "`setting`: 0 to 4")
    static void eachSettingHasItsOwnValue() {
        BreakerTrials x = new BreakerTrials();
        int[] values = {99, 16, 15, 98, 999};
        for (int setting = 0; setting < 5; setting++) {
            x.set(setting, values[setting]);
        }
        for (int setting = 0; setting < 5; setting++) {
            Checks.due("setting " + setting, x.setting(setting), values[setting]);
        }
        x.undo();
        Checks.due("setting 4 undone", x.setting(4), 80);
    }

    // ---- Promises 13 to 17: all looks

    @Case(promise = 13, says = "---- looks; nothing is changed.")
    static void looksChangeNothing() {
        BreakerTrials x = withTrial();
        Checks.type(x, "1,2");
        long before = x.digest();
        for (int what = 0; what <= 10; what++) {
            x.store(0, what);
        }
        for (int what = 0; what <= 8; what++) {
            x.count(what);
        }
        for (int place = 0; place <= 4; place++) {
            x.delay(0, place);
            x.onWay(place, 1);
            x.setting(place);
        }
        Checks.due("digest", x.digest(), before);
        Checks.due("undo", x.undo(), 4);
        Checks.due("the state before the trial", x.count(7), 0);
    }

    public static void main(String[] args) throws Exception {
        Cases.run(LookCases.class, 13, 17);
    }
}
