import java.math.BigInteger;

/** Boundary cases of promises 18 to 22: ifCalled, freeIn, healthiest, health, digest. */
public final class ForecastCases {
    private static final int[] NO_STORE = {-1, 4, Integer.MIN_VALUE, Integer.MAX_VALUE};

    // ---- Promise 18: ifCalled

    @Case(promise = 18, says = "Throws `IndexOutOfBoundsException` if there is no such store")
    static void ifCalledOfNoStore() {
        BreakerTrials x = Checks.full();
        for (int store : NO_STORE) {
            Checks.dueThrow(x, "ifCalled(" + store + ", 1, 0, 0)", () -> x.ifCalled(store, 1, 0, 0), Checks.INDEX);
        }
    }

    @Case(promise = 18, says = Cases.FIRST_NAMED)
    static void ifCalledOfNoStoreAndMore() {
        BreakerTrials x = new BreakerTrials();
        Checks.dueThrow(x, "ifCalled(4, 0, 0, 0)", () -> x.ifCalled(4, 0, 0, 0), Checks.INDEX);
        Checks.dueThrow(x, "ifCalled(-1, 1, 51, 0)", () -> x.ifCalled(-1, 1, 51, 0), Checks.INDEX);
        Checks.dueThrow(x, "ifCalled(4, 1, 0, 4)", () -> x.ifCalled(4, 1, 0, 4), Checks.INDEX);
    }

    @Case(promise = 18, says = "Throws `IllegalArgumentException` if times, ticks or what is out of range")
    static void ifCalledOutOfRange() {
        BreakerTrials x = new BreakerTrials();
        int[] noTimes = {0, 51, -1, Integer.MIN_VALUE, Integer.MAX_VALUE};
        for (int times : noTimes) {
            Checks.dueThrow(x, "ifCalled(0, " + times + ", 0, 0)", () -> x.ifCalled(0, times, 0, 0), Checks.ARGUMENT);
        }
        int[] noTicks = {-1, 51, Integer.MIN_VALUE, Integer.MAX_VALUE};
        for (int ticks : noTicks) {
            Checks.dueThrow(x, "ifCalled(0, 1, " + ticks + ", 0)", () -> x.ifCalled(0, 1, ticks, 0), Checks.ARGUMENT);
        }
        int[] noWhat = {-1, 4, Integer.MIN_VALUE, Integer.MAX_VALUE};
        for (int what : noWhat) {
            Checks.dueThrow(x, "ifCalled(0, 1, 0, " + what + ")", () -> x.ifCalled(0, 1, 0, what), Checks.ARGUMENT);
        }
    }

    @Case(promise = 18, says = "`times`: 1 to 50 - `ticks`: 0 to 50")
    static void ifCalledLeastAndMost() {
        BreakerTrials x = new BreakerTrials();
        Checks.due("once, no ticks", x.ifCalled(0, 1, 0, 0), 1);
        Checks.due("50 times, 50 ticks", x.ifCalled(0, 50, 50, 0), 50);
        Checks.due("50 times, no ticks", x.ifCalled(0, 50, 0, 0), 16);
        Checks.due("50 times, 4 ticks", x.ifCalled(0, 50, 4, 0), 50);
    }

    @Case(promise = 18, says = "0: calls that would be let through; 1: those that would be refused;")
    static void ifCalledOfRefusedOnes() {
        BreakerTrials x = Checks.cutOff("0");
        Checks.due("let through", x.ifCalled(0, 10, 0, 0), 0);
        Checks.due("refused", x.ifCalled(0, 10, 0, 1), 10);
        Checks.due("in ten ticks it tries", x.ifCalled(0, 11, 1, 0), 1);
        Checks.due("refused before", x.ifCalled(0, 11, 1, 1), 10);
    }

    @Case(promise = 18, says = "Tells what would come of calls, as with callOften().")
    static void ifCalledEndsWithoutRoom() {
        BreakerTrials x = Checks.full();
        Checks.due("let through", x.ifCalled(0, 50, 50, 0), 0);
        Checks.due("the rest is not refused", x.ifCalled(0, 50, 50, 1), 0);
        Checks.due("no ticks, no outcomes", x.ifCalled(0, 50, 50, 2), 0);
        Checks.due("its breaker", x.ifCalled(0, 50, 50, 3), 0);
        BreakerTrials y = Checks.fill(Checks.cutOff("3"));
        Checks.due("refused until it tries", y.ifCalled(0, 50, 2, 1), 5);
        Checks.due("then it tries", y.ifCalled(0, 50, 2, 3), 2);
    }

    @Case(promise = 18, says = "2: bad outcomes, of all stores;")
    static void ifCalledTellsBadOutcomesOfAllStores() {
        BreakerTrials x = Checks.withRow(0, "0");
        Checks.row(x, 1, "21,22");
        x.callOften(1, 2, 0);
        Checks.due("none of the others yet", x.ifCalled(0, 2, 10, 2), 2);
        Checks.due("one of the others", x.ifCalled(0, 3, 7, 2), 4);
        Checks.due("two of the others", x.ifCalled(0, 2, 11, 2), 4);
    }

    @Case(promise = 18, says = "Tells what would come of calls")
    static void ifCalledDoesNotTellWhatCameBefore() {
        BreakerTrials x = Checks.cutOff("5");
        x.call(0);
        Checks.due("let through", x.ifCalled(1, 1, 5, 0), 1);
        Checks.due("refused", x.ifCalled(0, 1, 0, 1), 1);
        Checks.due("bad outcomes", x.ifCalled(1, 1, 5, 2), 0);
    }

    @Case(promise = 18, says = "3: what the breaker of the store would be then")
    static void ifCalledTellsTheBreaker() {
        BreakerTrials x = Checks.withRow(0, "0,0,0,0,5");
        Checks.due("closed behind 3", x.ifCalled(0, 3, 0, 3), 0);
        Checks.due("cuts off behind 4", x.ifCalled(0, 4, 0, 3), 1);
        Checks.due("tries 10 ticks behind 4", x.ifCalled(0, 4, 10, 3), 2);
        Checks.due("closed 10 ticks behind the trial", x.ifCalled(0, 5, 10, 3), 0);
        Checks.due("of the store that is asked", Checks.cutOff("5").ifCalled(1, 1, 0, 3), 0);
    }

    @Case(promise = 18, says = "3: what the breaker of the store would be then")
    static void ifCalledMindsTheCallsOnTheirWay() {
        BreakerTrials x = Checks.withRow(2, "0,0,0,7,9");
        x.callOften(2, 4, 0);
        Checks.due("three bad outcomes, a call on its way", x.ifCalled(2, 1, 6, 3), 0);
        Checks.due("the fourth outcome is its", x.ifCalled(2, 1, 7, 3), 1);
        Checks.due("that of another store", x.ifCalled(0, 1, 7, 3), 0);
    }

    @Case(promise = 18, says = "what would be; nothing is changed.")
    static void ifCalledChangesNothing() {
        BreakerTrials x = Checks.trying("3,0,30");
        long before = x.digest();
        for (int what = 0; what < 4; what++) {
            x.ifCalled(0, 50, 50, what);
            x.ifCalled(1, 50, 0, what);
        }
        Checks.due("digest", x.digest(), before);
        Checks.due("undo", x.undo(), 3);
        Checks.due("the state before it", x.store(0, 0), 1);
    }

    // ---- Promise 19: freeIn

    @Case(promise = 19, says = "Throws `IndexOutOfBoundsException` if there is no such store")
    static void freeInOfNoStore() {
        BreakerTrials x = Checks.cutOff("5");
        for (int store : NO_STORE) {
            Checks.dueThrow(x, "freeIn(" + store + ")", () -> x.freeIn(store), Checks.INDEX);
        }
    }

    @Case(promise = 19, says = "Returns behind how many ticks, 0 to 999, a call would not be refused")
    static void freeAtOnce() {
        BreakerTrials x = Checks.trying("5");
        Checks.due("it tries", x.freeIn(0), 0);
        Checks.due("it is closed", x.freeIn(1), 0);
        Checks.due("it has calls on their way", Checks.full().freeIn(1), 0);
    }

    @Case(promise = 19, says = "Returns behind how many ticks, 0 to 999, a call would not be refused")
    static void freeWhenTheCutEnds() {
        BreakerTrials x = Checks.cutOff("5");
        for (int left = 10; left > 0; left--) {
            Checks.due("it cuts off", x.freeIn(0), left);
            x.pass(1);
        }
        Checks.due("it tries", x.freeIn(0), 0);
    }

    @Case(promise = 19, says = "(room does not matter)")
    static void freeWithoutRoom() {
        BreakerTrials x = Checks.full();
        Checks.due("closed", x.freeIn(0), 0);
        BreakerTrials y = Checks.fill(Checks.cutOff("5"));
        Checks.due("cuts off", y.freeIn(0), 10);
        BreakerTrials z = Checks.fill(Checks.trying("5"));
        Checks.due("tries", z.freeIn(0), 0);
    }

    @Case(promise = 19, says = "if only ticks pass")
    static void freeWhenAGoodTrialIsAnswered() {
        BreakerTrials x = Checks.trying("20");
        x.call(0);
        for (int left = 20; left > 0; left--) {
            Checks.due("behind its answer", x.freeIn(0), left);
            x.pass(1);
        }
        Checks.due("closed", x.freeIn(0), 0);
    }

    @Case(promise = 19, says = "if only ticks pass")
    static void freeWhenTheCutOfABadTrialEnds() {
        BreakerTrials x = Checks.trying("21");
        x.call(0);
        Checks.due("answered behind 21, cut off for 20 with the same tick", x.freeIn(0), 40);
        x.pass(39);
        Checks.due("refused", x.call(0), 0);
        x.pass(1);
        Checks.due("not refused", x.call(0), 2);
    }

    @Case(promise = 19, says = "if only ticks pass")
    static void freeInTheTickOfABadTrial() {
        BreakerTrials x = Checks.trying("21");
        x.set(4, 1);
        x.call(0);
        Checks.due("cut off for the tick of the answer alone", x.freeIn(0), 21);
        x.pass(20);
        Checks.due("refused", x.call(0), 0);
        x.pass(1);
        Checks.due("not refused", x.call(0), 2);
    }

    @Case(promise = 19, says = "a call would not be refused, if only ticks pass")
    static void freeBesideWhatWasATrial() {
        BreakerTrials x = Checks.trying("21");
        x.call(0);
        x.close(0);
        Checks.due("closed by hand", x.freeIn(0), 0);
    }

    /** Store 0 tries; it was cut off for 792 ticks, and would be for setting 4. */
    private static BreakerTrials longCut(String row, int most) {
        BreakerTrials x = Checks.withRow(0, "0");
        x.set(3, 99);
        x.set(4, 999);
        x.callOften(0, 4, 0);
        int[] cuts = {99, 198, 396, 792};
        for (int cut : cuts) {
            Checks.due("cut off for", x.freeIn(0), cut);
            Checks.passLong(x, cut);
            if (cut < 792) {
                x.call(0);
            }
        }
        x.set(4, most);
        Checks.row(x, 0, row);
        return x;
    }

    @Case(promise = 19, says = "0 to 999, a call would not be refused")
    static void freeIn999OfACut() {
        BreakerTrials x = longCut("0", 999);
        x.call(0);
        Checks.due("cut off for 999", x.freeIn(0), 999);
    }

    @Case(promise = 19, says = "0 to 999, a call would not be refused")
    static void freeIn999OfATrial() {
        BreakerTrials x = longCut("21", 979);
        x.call(0);
        Checks.due("answered behind 21, then cut off for 979", x.freeIn(0), 999);
        x.pass(1);
        Checks.due("a tick later", x.freeIn(0), 998);
    }

    @Case(promise = 19, says = "NONE if not behind 999.")
    static void notFreeBehind999() {
        BreakerTrials x = longCut("21", 980);
        x.call(0);
        Checks.due("free behind 1000", x.freeIn(0), BreakerTrials.NONE);
        x.pass(1);
        Checks.due("a tick later", x.freeIn(0), 999);
        BreakerTrials y = longCut("99", 999);
        y.call(0);
        Checks.due("free behind 1097", y.freeIn(0), BreakerTrials.NONE);
    }

    // ---- Promise 20: healthiest

    @Case(promise = 20, says = "of several the one with the fewest calls on their way, of these the lowest;")
    static void lowestOfAllAlike() {
        Checks.due("a new object", new BreakerTrials().healthiest(), 0);
        BreakerTrials x = new BreakerTrials();
        for (int store = 0; store < 4; store++) {
            x.call(store);
        }
        Checks.due("one on its way of each", x.healthiest(), 0);
        x.call(0);
        x.call(1);
        Checks.due("one on its way of two", x.healthiest(), 2);
    }

    @Case(promise = 20, says = "the one with the fewest bad outcomes in its window")
    static void fewestBadComesBeforeFewestOnTheirWay() {
        BreakerTrials x = new BreakerTrials();
        Checks.bring(x, 0, "b");
        Checks.bring(x, 1, "b");
        Checks.bring(x, 2, "b");
        x.callOften(3, 13, 0);
        Checks.due("13 on their way, but no bad one", x.healthiest(), 3);
        Checks.bring(x, 3, "b");
        Checks.due("a bad one, too", x.healthiest(), 0);
    }

    @Case(promise = 20, says = "of several the one with the fewest calls on their way")
    static void fewestOnTheirWayOfThoseAlike() {
        BreakerTrials x = new BreakerTrials();
        x.callOften(0, 2, 0);
        x.call(1);
        x.callOften(2, 2, 0);
        x.call(3);
        Checks.due("the lower one of two", x.healthiest(), 1);
        x.call(1);
        Checks.due("the only one", x.healthiest(), 3);
    }

    @Case(promise = 20, says = "the one with the fewest bad outcomes in its window")
    static void badOnesOfTheWindowAlone() {
        BreakerTrials x = new BreakerTrials();
        Checks.bring(x, 0, "b");
        Checks.bring(x, 1, "bgggg");
        Checks.bring(x, 2, "b");
        Checks.bring(x, 3, "b");
        Checks.due("the bad one is out of the window", x.healthiest(), 1);
        x.set(1, 5);
        Checks.due("and in it by a greater window: all alike", x.healthiest(), 0);
    }

    @Case(promise = 20, says = "Returns of the stores with a closed breaker")
    static void thoseThatTryAreNotHealthy() {
        BreakerTrials x = Checks.trying("5");
        Checks.bring(x, 1, "b");
        Checks.bring(x, 2, "bb");
        Checks.bring(x, 3, "bbb");
        Checks.due("store 0 tries", x.healthiest(), 1);
        BreakerTrials y = Checks.cutOff("5");
        y.callOften(1, 1, 0);
        y.callOften(2, 1, 0);
        y.callOften(3, 1, 0);
        Checks.due("store 0 cuts off", y.healthiest(), 1);
        y.close(0);
        Checks.due("store 0 is closed", y.healthiest(), 0);
    }

    @Case(promise = 20, says = "NONE if none is closed.")
    static void noHealthiest() {
        BreakerTrials x = new BreakerTrials();
        for (int store = 0; store < 4; store++) {
            Checks.bring(x, store, "bbbb");
        }
        Checks.due("all cut off", x.healthiest(), BreakerTrials.NONE);
        x.pass(10);
        Checks.due("all try", x.healthiest(), BreakerTrials.NONE);
        x.close(3);
        Checks.due("the last one is closed", x.healthiest(), 3);
    }

    // ---- Promise 21: health

    @Case(promise = 21, says = "1.0 without any.")
    static void healthWithoutOutcomes() {
        Checks.dueShare("a new object", new BreakerTrials().health(), 1.0);
        Checks.dueShare("calls on their way are no outcomes", Checks.full().health(), 1.0);
    }

    @Case(promise = 21, says = "1.0 without any.")
    static void healthWhenTheOutcomesAreUndone() {
        BreakerTrials x = Checks.withRow(0, "0");
        x.call(0);
        Checks.dueShare("one bad", x.health(), 0.0);
        x.undo();
        Checks.dueShare("undone", x.health(), 1.0);
    }

    @Case(promise = 21, says = "Returns good outcomes so far, as a double, divided by all outcomes so far")
    static void healthOfBadOnesOfGoodOnesAndOfBoth() {
        BreakerTrials x = new BreakerTrials();
        Checks.bring(x, 0, "b");
        Checks.dueShare("none of one", x.health(), 0.0);
        Checks.bring(x, 1, "gg");
        Checks.dueShare("two of three", x.health(), 2.0 / 3.0);
        BreakerTrials y = new BreakerTrials();
        Checks.bring(y, 0, "ggg");
        Checks.dueShare("three of three", y.health(), 1.0);
    }

    @Case(promise = 21, says = "divided by all outcomes so far")
    static void healthOfAllStoresAndOfOutcomesThatDoNotCount() {
        BreakerTrials x = Checks.trying("21");
        x.callOften(0, 1, 21);
        x.call(0);
        Checks.dueShare("a bad trial, and a refused call", x.health(), 0.0);
        Checks.bring(x, 3, "g");
        x.call(2);
        x.close(2);
        x.pass(5);
        Checks.dueShare("two good ones of seven", x.health(), 2.0 / 7.0);
    }

    // ---- Promise 22: digest

    private static final class Hash {
        private BigInteger whole = BigInteger.valueOf(3037);

        void add(long value) {
            whole = whole.multiply(BigInteger.valueOf(31)).add(BigInteger.valueOf(value));
        }
    }

    /** The list of promise 22 from the other answers, without an overflow. */
    private static Hash hashOf(BreakerTrials x, String buffer) {
        Hash hash = new Hash();
        for (int what = 0; what <= 8; what++) {
            hash.add(x.count(what));
        }
        for (int setting = 0; setting <= 4; setting++) {
            hash.add(x.setting(setting));
        }
        for (int store = 0; store < 4; store++) {
            addStore(hash, x, store);
        }
        for (int place = 0; place < x.count(1); place++) {
            for (int what = 0; what <= 3; what++) {
                hash.add(x.onWay(place, what));
            }
        }
        hash.add(x.healthiest());
        hash.add(Double.doubleToLongBits(x.health()));
        hash.add(buffer.length());
        for (int i = 0; i < buffer.length(); i++) {
            hash.add(buffer.charAt(i));
        }
        return hash;
    }

    private static void addStore(Hash hash, BreakerTrials x, int store) {
        for (int what = 0; what <= 10; what++) {
            hash.add(x.store(store, what));
        }
        for (int place = 0; x.delay(store, place) != BreakerTrials.NONE; place++) {
            hash.add(x.delay(store, place));
        }
        hash.add(x.freeIn(store));
        for (int what = 0; what <= 3; what++) {
            hash.add(x.ifCalled(store, 6, 3, what));
        }
    }

    private static void dueDigest(String place, BreakerTrials x, String buffer) {
        Checks.due("digest of " + place, x.digest(), hashOf(x, buffer).whole.longValue());
    }

    @Case(promise = 22, says = "The hash starts at 3037.")
    static void digestOfANewObject() {
        dueDigest("a new object", new BreakerTrials(), "");
        Checks.due("another new object", new BreakerTrials().digest(), new BreakerTrials().digest());
    }

    @Case(promise = 22, says = "in long arithmetic with overflow")
    static void digestWrapsAround() {
        BreakerTrials x = new BreakerTrials();
        BigInteger whole = hashOf(x, "").whole;
        Checks.due("the hash is longer than a long", whole.bitLength() > 64 ? 1 : 0, 1);
        Checks.due("digest", x.digest(), whole.longValue());
    }

    @Case(promise = 22, says = "the length of the buffer and each of its character codes")
    static void digestOfEmptyAndFullBuffers() {
        BreakerTrials x = new BreakerTrials();
        String text = "";
        for (int length = 0; length < 60; length++) {
            text += (char) (length % 2 == 0 ? 33 : 126);
            x.append(text.charAt(length));
        }
        dueDigest("a full buffer", x, text);
        x.clearBuffer();
        dueDigest("a cleared buffer", x, "");
        x.append('7');
        dueDigest("one character", x, "7");
    }

    @Case(promise = 22, says = "for each call on its way its numbers 0 to 3")
    static void digestOfSixteenCallsOnTheirWay() {
        BreakerTrials x = Checks.trying("30");
        x.call(0);
        x.call(3);
        dueDigest("two calls", x, "");
        Checks.fill(x);
        dueDigest("16 calls", x, "");
        x.pass(99);
        dueDigest("no calls", x, "");
    }

    @Case(promise = 22, says = "for each store its numbers 0 to 10, its delays, freeIn, "
            + "and ifCalled of 6 calls with 3 ticks with 0 to 3")
    static void digestOfLongRows() {
        BreakerTrials x = Checks.withRow(0, "0,1,2,3,4,0,6,7,8,9,0,1,2,3,4,5,6,7,8,99");
        Checks.row(x, 2, "0");
        Checks.row(x, 3, "30,0");
        dueDigest("long rows", x, "");
        x.callOften(0, 7, 2);
        x.callOften(2, 7, 2);
        x.callOften(3, 7, 2);
        dueDigest("long rows behind calls", x, "");
    }

    @Case(promise = 22, says = "freeIn")
    static void digestWithFreeInOfNone() {
        BreakerTrials x = longCut("99", 999);
        x.call(0);
        Checks.due("freeIn", x.freeIn(0), BreakerTrials.NONE);
        dueDigest("a store that is not free behind 999", x, "");
    }

    @Case(promise = 22, says = "healthiest;")
    static void digestWithoutAHealthiest() {
        BreakerTrials x = new BreakerTrials();
        for (int store = 0; store < 4; store++) {
            Checks.bring(x, store, "gbbb");
        }
        Checks.due("healthiest", x.healthiest(), BreakerTrials.NONE);
        dueDigest("none closed", x, "");
    }

    @Case(promise = 22, says = "the bits of health (as Double.doubleToLongBits)")
    static void digestOfHealthFrom0To1() {
        BreakerTrials x = new BreakerTrials();
        x.set(2, 16);
        Checks.bring(x, 0, "b");
        Checks.dueShare("health", x.health(), 0.0);
        dueDigest("health 0", x, "");
        for (int all = 2; all <= 5; all++) {
            Checks.bring(x, 0, "g");
            dueDigest("health of " + all, x, "");
        }
        BreakerTrials y = new BreakerTrials();
        Checks.bring(y, 0, "g");
        Checks.dueShare("health", y.health(), 1.0);
        dueDigest("health 1", y, "");
    }

    @Case(promise = 22, says = "the bits of health (as Double.doubleToLongBits)")
    static void digestOfASmallHealth() {
        BreakerTrials x = Checks.withRow(0, "1");
        x.callOften(0, 1, 1);
        Checks.row(x, 0, "0");
        x.set(2, 16);
        for (int i = 0; i < 200; i++) {
            x.callOften(0, 50, 0);
        }
        Checks.dueShare("health", x.health(), 1.0 / 10001.0);
        dueDigest("one good outcome of 10001", x, "");
    }

    @Case(promise = 22, says = "what would be; nothing is changed.")
    static void digestChangesNothing() {
        BreakerTrials x = Checks.trying("0,7");
        long first = x.digest();
        Checks.due("digest again", x.digest(), first);
        Checks.dueStore("as before", x, 0, 2, 0, 0, 0, 10, 4, 0, 4, 0, 1, 0);
        Checks.dueCounts("as before", x, 10, 0, 4, 0, 4, 0, 3, 0, 4);
    }

    public static void main(String[] args) throws Exception {
        Cases.run(ForecastCases.class, 18, 22);
    }
}
