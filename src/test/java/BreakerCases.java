/**
 * Boundary cases of the breakers and ticks, as the Terms tell them: those that call shows (promise 2), and close,
 * set and pass (promises 5 to 7).
 */
public final class BreakerCases {
    // ---- Promise 2: outcomes

    @Case(promise = 2, says = "it is bad if it failed, or if its delay is above setting 0 as it is then")
    static void delayOfTheSettingIsGood() {
        BreakerTrials x = Checks.withRow(0, "20");
        x.callOften(0, 1, 20);
        Checks.due("good outcomes", x.count(5), 1);
        Checks.due("bad outcomes", x.count(4), 0);
    }

    @Case(promise = 2, says = "it is bad if it failed, or if its delay is above setting 0 as it is then")
    static void delayOfOneAboveTheSettingIsBad() {
        BreakerTrials x = Checks.withRow(0, "21");
        x.callOften(0, 1, 21);
        Checks.due("good outcomes", x.count(5), 0);
        Checks.due("bad outcomes", x.count(4), 1);
        Checks.due("bad ones in the window", x.store(0, 2), 1);
    }

    @Case(promise = 2, says = "it is bad if it failed")
    static void failedIsBadWhateverTheSettingIs() {
        BreakerTrials x = Checks.withRow(0, "0");
        x.set(0, 99);
        x.call(0);
        x.set(0, 1);
        x.call(0);
        Checks.due("bad outcomes", x.count(4), 2);
    }

    @Case(promise = 2, says = "0: the greatest delay that is not slow, 1 to 99")
    static void nothingIsSlowUnder99AndAllFrom2Under1() {
        BreakerTrials x = Checks.withRow(0, "99,1,2");
        x.set(0, 99);
        x.callOften(0, 2, 49);
        x.pass(50);
        Checks.due("99 under 99, and 1", x.count(5), 2);
        x.set(0, 1);
        x.callOften(0, 1, 2);
        Checks.due("2 under 1", x.count(4), 1);
        Checks.row(x, 0, "1");
        x.callOften(0, 1, 1);
        Checks.due("1 under 1", x.count(5), 3);
    }

    @Case(promise = 2, says = "if its delay is above setting 0 as it is then")
    static void slownessByTheSettingWhenAnswered() {
        BreakerTrials x = Checks.withRow(0, "30");
        x.call(0);
        x.pass(29);
        x.set(0, 30);
        x.pass(1);
        Checks.due("slow when let through, not when answered", x.count(5), 1);
        BreakerTrials y = Checks.withRow(0, "15");
        y.call(0);
        y.pass(14);
        y.set(0, 14);
        y.pass(1);
        Checks.due("slow when answered, not when let through", y.count(4), 1);
    }

    // ---- Promise 2: the window

    @Case(promise = 2, says = "If there are setting 1 of them, and at least setting 2 are bad, "
            + "behind an outcome, it cuts off")
    static void oneOutcomeTooFew() {
        BreakerTrials x = new BreakerTrials();
        Checks.bring(x, 0, "bbb");
        Checks.dueStore("three bad ones", x, 0, 0, 3, 3, 0, 0, 3, 0, 3, 0, 0, 0);
        Checks.bring(x, 0, "b");
        Checks.dueStore("four bad ones", x, 0, 1, 0, 0, 10, 10, 4, 0, 4, 0, 1, 0);
    }

    @Case(promise = 2, says = "and at least setting 2 are bad")
    static void oneBadTooFew() {
        BreakerTrials x = new BreakerTrials();
        Checks.bring(x, 0, "gbgg");
        Checks.due("one bad of four: closed", x.store(0, 0), 0);
        Checks.bring(x, 0, "b");
        Checks.due("two bad of four: cuts off", x.store(0, 0), 1);
    }

    @Case(promise = 2, says = "and at least setting 2 are bad")
    static void moreBadThanTooMany() {
        BreakerTrials x = new BreakerTrials();
        x.set(2, 16);
        Checks.bring(x, 0, "bbbb");
        x.set(2, 2);
        Checks.bring(x, 0, "b");
        Checks.due("four bad of four", x.store(0, 0), 1);
    }

    @Case(promise = 2, says = "behind an outcome, it cuts off")
    static void goodOutcomeThatFillsTheWindow() {
        BreakerTrials x = new BreakerTrials();
        Checks.bring(x, 0, "bbg");
        Checks.due("three outcomes", x.store(0, 0), 0);
        Checks.bring(x, 0, "g");
        Checks.due("the fourth is good, and it cuts off", x.store(0, 0), 1);
    }

    @Case(promise = 2, says = "the outcomes, at most the last setting 1 ones")
    static void oldestOutcomeDropsOut() {
        BreakerTrials x = new BreakerTrials();
        Checks.bring(x, 0, "bgggb");
        Checks.due("bad outcomes so far", x.store(0, 7), 2);
        Checks.dueStore("the first is none of the last four", x, 0, 0, 4, 1, 0, 0, 5, 0, 2, 0, 0, 0);
        BreakerTrials y = new BreakerTrials();
        Checks.bring(y, 0, "gbggb");
        Checks.due("the second is", y.store(0, 0), 1);
    }

    @Case(promise = 2, says = "1: the window, 2 to 16")
    static void smallestWindow() {
        BreakerTrials x = new BreakerTrials();
        x.set(1, 2);
        x.set(2, 1);
        Checks.bring(x, 0, "b");
        Checks.due("one outcome", x.store(0, 0), 0);
        Checks.bring(x, 0, "g");
        Checks.due("two outcomes", x.store(0, 0), 1);
    }

    @Case(promise = 2, says = "1: the window, 2 to 16")
    static void greatestWindow() {
        BreakerTrials x = new BreakerTrials();
        x.set(1, 16);
        x.set(2, 1);
        Checks.bring(x, 0, "bgggggggggggggg");
        Checks.due("15 outcomes", x.store(0, 0), 0);
        Checks.due("15 in the window", x.store(0, 1), 15);
        Checks.bring(x, 0, "g");
        Checks.due("16 outcomes", x.store(0, 0), 1);
    }

    @Case(promise = 2, says = "2: bad ones that are too many, 1 to 16")
    static void sixteenBadOfSixteen() {
        BreakerTrials x = new BreakerTrials();
        x.set(1, 16);
        x.set(2, 16);
        Checks.bring(x, 0, "gbbbbbbbbbbbbbbb");
        Checks.dueStore("15 bad of 16", x, 0, 0, 16, 15, 0, 0, 16, 0, 15, 0, 0, 1);
        Checks.bring(x, 0, "b");
        Checks.due("16 bad of 16", x.store(0, 0), 1);
    }

    @Case(promise = 2, says = "2: bad ones that are too many, 1 to 16")
    static void moreTooManyThanTheWindowHas() {
        BreakerTrials x = new BreakerTrials();
        x.set(2, 5);
        Checks.bring(x, 0, "bbbbbbbbbb");
        Checks.dueStore("five of four are never bad", x, 0, 0, 4, 4, 0, 0, 10, 0, 10, 0, 0, 0);
    }

    @Case(promise = 2, says = "the last 16 are known")
    static void sixteenAreKnownUnderASmallWindow() {
        BreakerTrials x = new BreakerTrials();
        x.set(2, 16);
        Checks.bring(x, 0, "bbgggggggggggggg");
        Checks.due("outcomes by 4", x.store(0, 1), 4);
        Checks.due("bad ones by 4", x.store(0, 2), 0);
        x.set(1, 16);
        Checks.due("outcomes by 16", x.store(0, 1), 16);
        Checks.due("bad ones by 16", x.store(0, 2), 2);
        x.set(1, 15);
        Checks.due("outcomes by 15", x.store(0, 1), 15);
        Checks.due("bad ones by 15", x.store(0, 2), 1);
    }

    @Case(promise = 2, says = "the last 16 are known")
    static void the17thOutcomeDropsTheFirst() {
        BreakerTrials x = new BreakerTrials();
        x.set(1, 16);
        x.set(2, 16);
        Checks.bring(x, 0, "bggggggggggggggg");
        Checks.due("bad ones of 16", x.store(0, 2), 1);
        Checks.bring(x, 0, "g");
        Checks.due("outcomes behind the 17th", x.store(0, 1), 16);
        Checks.due("bad ones behind the 17th", x.store(0, 2), 0);
    }

    @Case(promise = 2, says = "by setting 1 as it is")
    static void windowByTheSettingAsItIs() {
        BreakerTrials x = new BreakerTrials();
        x.set(2, 16);
        Checks.bring(x, 0, "bbbgg");
        int[] bad = {0, 1, 2, 3, 3};
        int[] outcomes = {2, 3, 4, 5, 5};
        for (int window = 2; window <= 6; window++) {
            x.set(1, window);
            Checks.due("outcomes by " + window, x.store(0, 1), outcomes[window - 2]);
            Checks.due("bad ones by " + window, x.store(0, 2), bad[window - 2]);
        }
    }

    @Case(promise = 2, says = "behind an outcome, it cuts off")
    static void settingAloneDoesNotCutOff() {
        BreakerTrials x = new BreakerTrials();
        Checks.bring(x, 0, "gggb");
        x.set(2, 1);
        x.pass(3);
        Checks.due("one is too many now, but no outcome came", x.store(0, 0), 0);
        Checks.bring(x, 0, "g");
        Checks.due("behind the next one, a good one, it cuts off", x.store(0, 0), 1);
    }

    @Case(promise = 2, says = "behind an outcome, it cuts off")
    static void smallerWindowAloneDoesNotCutOff() {
        BreakerTrials x = new BreakerTrials();
        x.set(1, 16);
        Checks.bring(x, 0, "gbb");
        x.set(1, 3);
        x.pass(1);
        Checks.due("three of three, but no outcome came", x.store(0, 0), 0);
        Checks.bring(x, 0, "g");
        Checks.due("behind the next one it cuts off", x.store(0, 0), 1);
    }

    @Case(promise = 2, says = "of the calls that were let through since it was closed")
    static void eachStoreHasItsOwnWindow() {
        BreakerTrials x = new BreakerTrials();
        Checks.bring(x, 0, "bbb");
        Checks.bring(x, 1, "bbb");
        Checks.due("six bad ones of two stores", x.count(6), 4);
        Checks.bring(x, 1, "b");
        Checks.due("the other one cuts off", x.store(1, 0), 1);
        Checks.due("the first one does not", x.store(0, 0), 0);
    }

    // ---- Promise 2: cutting off and trying

    @Case(promise = 2, says = "A call of a breaker that cuts off is refused.")
    static void refusedUntilTheLastTick() {
        BreakerTrials x = Checks.cutOff("7");
        Checks.due("at once", x.call(0), 0);
        x.pass(9);
        Checks.due("one tick left", x.store(0, 3), 1);
        Checks.due("with one tick left", x.call(0), 0);
        x.pass(1);
        Checks.due("with none left", x.call(0), 2);
    }

    @Case(promise = 2, says = "When a breaker that cuts off has done so for its ticks, it tries, "
            + "without a call that is on its way as a trial.")
    static void triesWithoutATrial() {
        BreakerTrials x = Checks.trying("7");
        Checks.dueStore("tries", x, 0, 2, 0, 0, 0, 10, 4, 0, 4, 0, 1, 7);
        Checks.due("on their way", x.count(1), 0);
        x.pass(200);
        Checks.dueStore("still tries", x, 0, 2, 0, 0, 0, 10, 4, 0, 4, 0, 1, 7);
    }

    @Case(promise = 2, says = "3: ticks of cutting off, 1 to 99")
    static void shortestCut() {
        BreakerTrials x = Checks.withRow(0, "0");
        x.set(3, 1);
        x.callOften(0, 4, 0);
        Checks.due("ticks left", x.store(0, 3), 1);
        Checks.due("call", x.call(0), 0);
        x.pass(1);
        Checks.due("it tries", x.store(0, 0), 2);
    }

    @Case(promise = 2, says = "3: ticks of cutting off, 1 to 99")
    static void longestFirstCut() {
        BreakerTrials x = Checks.withRow(0, "0");
        x.set(3, 99);
        x.callOften(0, 4, 0);
        Checks.due("ticks left", x.store(0, 3), 99);
        x.pass(98);
        Checks.due("it cuts off", x.store(0, 0), 1);
        x.pass(1);
        Checks.due("it tries", x.store(0, 0), 2);
    }

    @Case(promise = 2, says = "for setting 3 ticks (whatever setting 4 is)")
    static void firstCutAboveSetting4() {
        BreakerTrials x = Checks.withRow(0, "0");
        x.set(4, 1);
        x.callOften(0, 4, 0);
        Checks.due("ticks left", x.store(0, 3), 10);
        Checks.due("ticks of the cut", x.store(0, 4), 10);
    }

    @Case(promise = 2, says = "The first call of a breaker that tries is let through, as its trial; "
            + "as long as that is on its way, further ones are refused.")
    static void refusedWhileTheTrialIsOnItsWay() {
        BreakerTrials x = Checks.trying("4");
        Checks.due("the first", x.call(0), 2);
        for (int tick = 0; tick < 4; tick++) {
            Checks.due("behind " + tick + " ticks", x.call(0), 0);
            x.pass(1);
        }
        Checks.due("behind its outcome", x.call(0), 1);
        Checks.due("trials so far", x.count(7), 1);
        Checks.due("refused so far", x.count(3), 4);
    }

    @Case(promise = 2, says = "If the outcome of the trial is good, the breaker is closed, with an empty window")
    static void goodTrialCloses() {
        BreakerTrials x = Checks.trying("20,0,0,0,0");
        x.callOften(0, 1, 20);
        Checks.dueStore("closed", x, 0, 0, 0, 0, 0, 0, 5, 0, 4, 0, 1, 0);
        x.callOften(0, 3, 0);
        Checks.dueStore("three outcomes, the trial's is none of them", x, 0, 0, 3, 3, 0, 0, 8, 0, 7, 0, 1, 0);
    }

    @Case(promise = 2, says = "for twice the ticks for which it did the last time, but at most setting 4")
    static void slowTrialCutsOffForTwice() {
        BreakerTrials x = Checks.trying("21");
        x.callOften(0, 1, 20);
        Checks.due("it tries", x.store(0, 0), 2);
        x.pass(1);
        Checks.dueStore("one tick less in the same tick", x, 0, 1, 0, 0, 19, 20, 5, 0, 5, 0, 2, 21);
    }

    @Case(promise = 2, says = "for twice the ticks for which it did the last time, but at most setting 4")
    static void failedTrialCutsOffAtOnce() {
        BreakerTrials x = Checks.trying("0,7");
        Checks.due("trial", x.call(0), 2);
        Checks.dueStore("cut off", x, 0, 1, 0, 0, 20, 20, 5, 0, 5, 0, 2, 7);
        Checks.due("the next one", x.call(0), 0);
    }

    @Case(promise = 2, says = "but at most setting 4")
    static void twiceAtMostSetting4() {
        int[] most = {1, 10, 19, 20, 21, 999};
        int[] want = {1, 10, 19, 20, 20, 20};
        for (int i = 0; i < most.length; i++) {
            BreakerTrials x = Checks.trying("0");
            x.set(4, most[i]);
            x.call(0);
            Checks.due("ticks under " + most[i], x.store(0, 3), want[i]);
            Checks.due("ticks of the cut under " + most[i], x.store(0, 4), want[i]);
        }
    }

    @Case(promise = 2, says = "for twice the ticks for which it did the last time, but at most setting 4")
    static void doublesUntilSetting4() {
        BreakerTrials x = Checks.cutOff("0");
        int[] want = {10, 20, 40, 80, 80, 80};
        for (int ticks : want) {
            Checks.due("cut off for", x.store(0, 3), ticks);
            x.pass(ticks);
            Checks.due("trial", x.call(0), 2);
        }
    }

    @Case(promise = 2, says = "4: the most ticks of cutting off, 1 to 999")
    static void doublesUntil999() {
        BreakerTrials x = Checks.withRow(0, "0");
        x.set(3, 99);
        x.set(4, 999);
        x.callOften(0, 4, 0);
        int[] want = {99, 198, 396, 792, 999, 999};
        for (int ticks : want) {
            Checks.due("cut off for", x.store(0, 3), ticks);
            Checks.passLong(x, ticks - 1);
            Checks.due("refused", x.call(0), 0);
            x.pass(1);
            Checks.due("trial", x.call(0), 2);
        }
    }

    @Case(promise = 2, says = "for twice the ticks for which it did the last time")
    static void twiceTheLastTimeWhateverSetting3Is() {
        BreakerTrials x = Checks.trying("0");
        x.set(3, 99);
        x.call(0);
        Checks.due("twice 10", x.store(0, 3), 20);
        x.set(4, 7);
        x.pass(20);
        x.call(0);
        Checks.due("at most 7, less than the last time", x.store(0, 3), 7);
        x.set(4, 999);
        x.pass(7);
        x.call(0);
        Checks.due("twice 7", x.store(0, 3), 14);
    }

    @Case(promise = 2, says = "it cuts off: for setting 3 ticks")
    static void setting3AgainBehindAGoodTrial() {
        BreakerTrials x = Checks.trying("0,1,0,0,0,0");
        x.callOften(0, 1, 20);
        x.callOften(0, 1, 1);
        Checks.due("closed", x.store(0, 0), 0);
        x.callOften(0, 4, 0);
        Checks.due("the first time since it was closed", x.store(0, 3), 10);
        Checks.due("how often so far", x.store(0, 9), 3);
    }

    // ---- Promise 2: outcomes that do not count

    /** A call of delay d is on its way, then store 0 cuts off for 10 ticks by four that fail; the rest of the row. */
    private static BreakerTrials oldCall(int delay, String rest) {
        BreakerTrials x = Checks.withRow(0, delay + ",0,0,0,0" + rest);
        x.callOften(0, 5, 0);
        return x;
    }

    @Case(promise = 2, says = "and that come when the breaker is not closed")
    static void badOutcomeWhileItCutsOff() {
        BreakerTrials x = oldCall(5, "");
        x.set(0, 4);
        x.pass(5);
        Checks.dueStore("cuts off as before", x, 0, 1, 0, 0, 5, 10, 5, 0, 5, 0, 1, 5);
    }

    @Case(promise = 2, says = "and that come when the breaker is not closed")
    static void goodOutcomeWhileItCutsOff() {
        BreakerTrials x = oldCall(5, "");
        x.pass(5);
        Checks.dueStore("cuts off as before", x, 0, 1, 0, 0, 5, 10, 5, 0, 4, 0, 1, 5);
        Checks.due("good outcomes", x.count(5), 1);
    }

    @Case(promise = 2, says = "and that come when the breaker is not closed")
    static void outcomesWhileItTries() {
        BreakerTrials x = oldCall(12, "");
        x.pass(12);
        Checks.dueStore("a good one does not close it", x, 0, 2, 0, 0, 0, 10, 5, 0, 4, 0, 1, 12);
        BreakerTrials y = oldCall(12, "");
        y.set(0, 11);
        y.pass(12);
        Checks.dueStore("a bad one does not cut it off", y, 0, 2, 0, 0, 0, 10, 5, 0, 5, 0, 1, 12);
    }

    @Case(promise = 2, says = "Outcomes of calls that are no trials")
    static void outcomeWhileTheTrialIsOnItsWay() {
        BreakerTrials x = oldCall(15, ",9");
        x.pass(10);
        Checks.due("trial", x.call(0), 2);
        x.pass(5);
        Checks.due("an old good one does not close it", x.store(0, 0), 2);
        Checks.due("the trial goes on", x.call(0), 0);
        x.pass(4);
        Checks.due("its own outcome closes it", x.store(0, 0), 0);
    }

    @Case(promise = 2, says = "or was closed anew since they were let through, do not count for it")
    static void outcomeOfBeforeTheGoodTrial() {
        BreakerTrials x = oldCall(30, ",1");
        x.set(2, 1);
        x.pass(10);
        x.callOften(0, 1, 1);
        Checks.due("closed anew", x.store(0, 0), 0);
        x.pass(19);
        Checks.dueStore("an old bad one", x, 0, 0, 0, 0, 0, 0, 6, 0, 5, 0, 1, 30);
    }

    @Case(promise = 2, says = "or was closed anew since they were let through, do not count for it")
    static void outcomesOfBeforeTheClosingByHand() {
        BreakerTrials x = Checks.withRow(0, "30,7");
        x.callOften(0, 2, 0);
        x.close(0);
        x.pass(30);
        Checks.dueStore("an old bad one and an old good one", x, 0, 0, 0, 0, 0, 0, 2, 0, 1, 0, 0, 30);
    }

    @Case(promise = 2, says = "or was closed anew since they were let through, do not count for it")
    static void oldOutcomeDoesNotCutOffAFullWindow() {
        BreakerTrials x = Checks.withRow(0, "50");
        x.call(0);
        x.close(0);
        Checks.bring(x, 0, "gggb");
        x.set(2, 1);
        x.pass(47);
        Checks.due("bad outcomes", x.store(0, 7), 2);
        Checks.dueStore("no outcome that counts came", x, 0, 0, 4, 1, 0, 0, 5, 0, 2, 0, 0, 1);
    }

    @Case(promise = 2, says = "(They are counted among the outcomes so far all the same.)")
    static void outcomesThatDoNotCountAreCountedSoFar() {
        BreakerTrials x = Checks.withRow(0, "30,7");
        x.callOften(0, 2, 0);
        x.close(0);
        x.pass(30);
        Checks.due("bad ones", x.count(4), 1);
        Checks.due("good ones", x.count(5), 1);
        Checks.dueShare("health", x.health(), 0.5);
    }

    @Case(promise = 2, says = "A trial whose breaker is closed by hand is none any more")
    static void trialClosedByHandIsNone() {
        BreakerTrials x = Checks.trying("9,7");
        x.call(0);
        Checks.due("close", x.close(0), 2);
        Checks.due("is none any more", x.onWay(0, 3), 0);
        Checks.due("it goes on", x.onWay(0, 1), 9);
        Checks.due("calls are let through beside it", x.call(0), 1);
        Checks.due("it was a trial", x.count(7), 1);
    }

    @Case(promise = 2, says = "and its outcome does not count for it either.")
    static void outcomesOfWhatWasATrial() {
        BreakerTrials x = Checks.trying("9");
        x.set(2, 1);
        x.call(0);
        x.close(0);
        x.pass(9);
        Checks.dueStore("a good one", x, 0, 0, 0, 0, 0, 0, 5, 0, 4, 0, 1, 9);
        BreakerTrials y = Checks.trying("21");
        y.set(2, 1);
        y.call(0);
        y.close(0);
        y.pass(21);
        Checks.dueStore("a bad one", y, 0, 0, 0, 0, 0, 0, 5, 0, 5, 0, 1, 21);
    }

    /** What was a trial, and a new trial, are on their way. */
    private static BreakerTrials twoTrials(int former) {
        BreakerTrials x = Checks.trying(former + ",0,0,0,0,50");
        x.call(0);
        x.close(0);
        x.callOften(0, 4, 0);
        x.pass(10);
        Checks.due("the new trial", x.call(0), 2);
        Checks.due("what was a trial", x.onWay(0, 3), 0);
        Checks.due("what is one", x.onWay(1, 3), 1);
        return x;
    }

    @Case(promise = 2, says = "and its outcome does not count for it either.")
    static void whatWasATrialDoesNotAnswerForTheNewOne() {
        BreakerTrials good = twoTrials(20);
        good.pass(10);
        Checks.dueStore("a good one", good, 0, 2, 0, 0, 0, 10, 10, 0, 8, 1, 2, 20);
        Checks.due("the new trial is on its way", good.call(0), 0);
        BreakerTrials bad = twoTrials(30);
        bad.pass(20);
        Checks.dueStore("a bad one", bad, 0, 2, 0, 0, 0, 10, 10, 0, 9, 1, 2, 30);
        bad.pass(30);
        Checks.dueStore("the new trial's", bad, 0, 1, 0, 0, 19, 20, 10, 0, 10, 0, 3, 30);
    }

    // ---- Promise 5: close

    @Case(promise = 5, says = "Throws `IndexOutOfBoundsException` if there is no such store")
    static void closeOfNoStore() {
        BreakerTrials x = Checks.cutOff("5");
        int[] none = {-1, 4, Integer.MIN_VALUE, Integer.MAX_VALUE};
        for (int store : none) {
            Checks.dueThrow(x, "close(" + store + ")", () -> x.close(store), Checks.INDEX);
        }
    }

    @Case(promise = 5, says = "Returns what it was: 0 to 2.")
    static void closeReturnsWhatItWas() {
        BreakerTrials x = Checks.cutOff("5");
        Checks.due("it cuts off", x.close(0), 1);
        Checks.due("it is closed", x.close(0), 0);
        BreakerTrials y = Checks.trying("5");
        Checks.due("it tries", y.close(0), 2);
    }

    @Case(promise = 5, says = "Closes the breaker of a store, with an empty window")
    static void closeEndsTheCut() {
        BreakerTrials x = Checks.cutOff("5");
        x.close(0);
        Checks.dueStore("closed", x, 0, 0, 0, 0, 0, 0, 4, 0, 4, 0, 1, 5);
        Checks.due("call", x.call(0), 1);
        x.pass(10);
        Checks.due("it does not try behind the ticks", x.store(0, 0), 0);
    }

    @Case(promise = 5, says = "(a closed one, too, is closed anew by it)")
    static void closeEmptiesTheWindowOfAClosedOne() {
        BreakerTrials x = new BreakerTrials();
        Checks.bring(x, 0, "bbb");
        x.close(0);
        Checks.dueStore("an empty window", x, 0, 0, 0, 0, 0, 0, 3, 0, 3, 0, 0, 0);
        Checks.bring(x, 0, "bbb");
        Checks.due("three since it was closed", x.store(0, 0), 0);
        Checks.bring(x, 0, "b");
        Checks.due("four", x.store(0, 0), 1);
    }

    @Case(promise = 5, says = "(a closed one, too, is closed anew by it)")
    static void closeEmptiesWhatIsKnownToo() {
        BreakerTrials x = new BreakerTrials();
        x.set(2, 16);
        Checks.bring(x, 0, "bbbbbb");
        x.close(0);
        Checks.bring(x, 0, "g");
        x.set(1, 16);
        Checks.due("outcomes", x.store(0, 1), 1);
        Checks.due("bad ones", x.store(0, 2), 0);
    }

    @Case(promise = 5, says = "Closes the breaker of a store")
    static void closeLeavesTheOtherStores() {
        BreakerTrials x = Checks.trying("9");
        x.call(0);
        Checks.bring(x, 1, "bbb");
        x.close(1);
        Checks.due("the other one's trial is one", x.onWay(0, 3), 1);
        Checks.due("the other one tries", x.store(0, 0), 2);
        x.close(2);
        Checks.due("the other one's trial is one", x.onWay(0, 3), 1);
    }

    @Case(promise = 5, says = "Each method that is marked \"undoable\" and does not throw an exception "
            + "saves the state from before it (also if it changes nothing)")
    static void closeSavesIfItChangesNothing() {
        BreakerTrials x = new BreakerTrials();
        long before = x.digest();
        Checks.due("close", x.close(3), 0);
        Checks.due("saved states", x.count(8), 1);
        Checks.due("undo", x.undo(), 0);
        Checks.due("digest", x.digest(), before);
    }

    @Case(promise = 5, says = "saves the state from before it")
    static void undoOfCloseBringsTheTrialBack() {
        BreakerTrials x = Checks.trying("21");
        x.call(0);
        x.close(0);
        x.undo();
        Checks.due("is a trial again", x.onWay(0, 3), 1);
        x.pass(21);
        Checks.due("its outcome counts", x.store(0, 4), 20);
    }

    // ---- Promise 6: set

    @Case(promise = 6, says = "Throws `IndexOutOfBoundsException` if there is no such setting")
    static void setOfNoSetting() {
        BreakerTrials x = new BreakerTrials();
        int[] none = {-1, 5, Integer.MIN_VALUE, Integer.MAX_VALUE};
        for (int setting : none) {
            Checks.dueThrow(x, "set(" + setting + ", 5)", () -> x.set(setting, 5), Checks.INDEX);
        }
    }

    @Case(promise = 6, says = Cases.FIRST_NAMED)
    static void setOfNoSettingNoValue() {
        BreakerTrials x = new BreakerTrials();
        Checks.dueThrow(x, "set(5, 0)", () -> x.set(5, 0), Checks.INDEX);
        Checks.dueThrow(x, "set(-1, 1000)", () -> x.set(-1, 1000), Checks.INDEX);
    }

    private static void dueRange(int setting, int first, int least, int most) {
        BreakerTrials x = new BreakerTrials();
        Checks.due("the least", x.set(setting, least), first);
        Checks.due("the most", x.set(setting, most), least);
        Checks.due("setting", x.setting(setting), most);
        int[] odd = {least - 1, most + 1, -1, Integer.MIN_VALUE, Integer.MAX_VALUE};
        for (int value : odd) {
            Checks.dueThrow(x, "set(" + setting + ", " + value + ")", () -> x.set(setting, value), Checks.ARGUMENT);
        }
    }

    @Case(promise = 6, says = "0: the greatest delay that is not slow, 1 to 99, at first 20")
    static void rangeOfSetting0() {
        dueRange(0, 20, 1, 99);
    }

    @Case(promise = 6, says = "1: the window, 2 to 16, at first 4")
    static void rangeOfSetting1() {
        dueRange(1, 4, 2, 16);
    }

    @Case(promise = 6, says = "2: bad ones that are too many, 1 to 16, at first 2")
    static void rangeOfSetting2() {
        dueRange(2, 2, 1, 16);
    }

    @Case(promise = 6, says = "3: ticks of cutting off, 1 to 99, at first 10")
    static void rangeOfSetting3() {
        dueRange(3, 10, 1, 99);
    }

    @Case(promise = 6, says = "4: the most ticks of cutting off, 1 to 999, at first 80")
    static void rangeOfSetting4() {
        dueRange(4, 80, 1, 999);
    }

    @Case(promise = 6, says = "(what is cut off stays so for its ticks)")
    static void setLeavesWhatIsCutOff() {
        BreakerTrials x = Checks.cutOff("5");
        x.set(3, 1);
        x.set(4, 1);
        Checks.due("ticks left", x.store(0, 3), 10);
        Checks.due("ticks of the cut", x.store(0, 4), 10);
        x.pass(9);
        Checks.due("it cuts off", x.store(0, 0), 1);
        x.pass(1);
        Checks.due("it tries", x.store(0, 0), 2);
    }

    @Case(promise = 6, says = "saves the state from before it (also if it changes nothing)")
    static void setSavesIfItChangesNothing() {
        BreakerTrials x = new BreakerTrials();
        Checks.due("set", x.set(2, 2), 2);
        Checks.due("saved states", x.count(8), 1);
    }

    // ---- Promise 7: pass, and the tick

    @Case(promise = 7, says = "Throws `IllegalArgumentException` if ticks is out of range")
    static void passTooFewOrTooMany() {
        BreakerTrials x = Checks.cutOff("5");
        int[] odd = {0, 201, -1, Integer.MIN_VALUE, Integer.MAX_VALUE};
        for (int ticks : odd) {
            Checks.dueThrow(x, "pass(" + ticks + ")", () -> x.pass(ticks), Checks.ARGUMENT);
        }
    }

    @Case(promise = 7, says = "`ticks`: 1 to 200")
    static void passOneAndTwoHundred() {
        BreakerTrials x = new BreakerTrials();
        Checks.due("pass(1)", x.pass(1), 0);
        Checks.due("ticks", x.count(0), 1);
        Checks.due("pass(200)", x.pass(200), 0);
        Checks.due("ticks", x.count(0), 201);
    }

    @Case(promise = 7, says = "Returns how many calls are answered.")
    static void passAnswersAllSixteenOrNone() {
        BreakerTrials x = Checks.full();
        Checks.due("none in 98 ticks", x.pass(98), 0);
        Checks.due("all in the 99th", x.pass(1), 16);
        Checks.due("none are left", x.pass(200), 0);
    }

    @Case(promise = 7, says = "Returns how many calls are answered.")
    static void passCountsTheAnswersOfAllTicks() {
        BreakerTrials x = Checks.withRow(0, "1,2,3,4");
        x.callOften(0, 4, 0);
        x.call(1);
        Checks.due("in ticks 1 to 3", x.pass(3), 3);
        Checks.due("in ticks 4 and 5", x.pass(2), 2);
    }

    @Case(promise = 7, says = "Undoable, as one call.")
    static void passIsUndoneAsOne() {
        BreakerTrials x = Checks.cutOff("5");
        long before = x.digest();
        x.pass(200);
        Checks.due("saved states", x.count(8), 4);
        x.undo();
        Checks.due("digest", x.digest(), before);
    }

    @Case(promise = 7, says = "those with none to go are answered, in this order.")
    static void answeredInTheOrderInWhichTheyWereLetThrough() {
        BreakerTrials x = Checks.withRow(0, "0,2,1");
        x.set(0, 1);
        x.set(1, 2);
        x.callOften(0, 2, 0);
        x.pass(1);
        x.call(0);
        Checks.due("two in one tick, the slow one first", x.pass(1), 2);
        Checks.due("two bad ones stood together", x.store(0, 0), 1);
        BreakerTrials y = Checks.withRow(0, "0,1,2");
        y.set(0, 1);
        y.set(1, 2);
        y.callOften(0, 2, 1);
        y.callOften(0, 1, 2);
        Checks.due("a good one between them", y.store(0, 0), 0);
    }

    @Case(promise = 7, says = "those with none to go are answered, in this order.")
    static void answersBehindTheCutInOneTickDoNotCount() {
        BreakerTrials x = Checks.withRow(0, "3,2,1");
        x.set(0, 1);
        x.set(1, 2);
        x.callOften(0, 3, 1);
        Checks.dueStore("the second cuts off, the third does not count", x, 0, 1, 0, 0, 9, 10, 3, 0, 2, 0, 1, 3);
        Checks.due("good outcomes", x.count(5), 1);
    }

    @Case(promise = 7, says = "in the order in which they were let through")
    static void theOrderStaysWhenOneInTheMiddleIsAnswered() {
        BreakerTrials x = Checks.withRow(0, "3,1,2");
        x.callOften(0, 3, 0);
        x.pass(1);
        Checks.due("the first", x.onWay(0, 2), 3);
        Checks.due("the second", x.onWay(1, 2), 2);
        Checks.due("no third", x.onWay(2, 2), BreakerTrials.NONE);
        Checks.due("their ticks", x.onWay(0, 1) * 10 + x.onWay(1, 1), 21);
    }

    @Case(promise = 7, says = "in the order in which they were let through")
    static void theOrderOfTheStoresStaysToo() {
        BreakerTrials x = Checks.withRow(2, "1");
        int[] stores = {3, 2, 1, 2, 0};
        for (int store : stores) {
            x.call(store);
        }
        Checks.due("answered", x.pass(1), 2);
        int[] left = {3, 1, 0, BreakerTrials.NONE};
        for (int place = 0; place < left.length; place++) {
            Checks.due("store of " + place, x.onWay(place, 0), left[place]);
        }
    }

    @Case(promise = 7, says = "(A breaker that begins to cut off in a tick has one tick less to go in the same one.)")
    static void cutOffInATick() {
        BreakerTrials x = Checks.withRow(0, "0,0,0,7");
        x.callOften(0, 4, 0);
        x.pass(7);
        Checks.dueStore("in the tick", x, 0, 1, 0, 0, 9, 10, 4, 0, 3, 0, 1, 0);
    }

    @Case(promise = 7, says = "(A breaker that begins to cut off in a tick has one tick less to go in the same one.)")
    static void cutOffForOneTickInATick() {
        BreakerTrials x = Checks.withRow(0, "0,0,0,7");
        x.set(3, 1);
        x.callOften(0, 4, 0);
        x.pass(7);
        Checks.dueStore("tries behind the same tick", x, 0, 2, 0, 0, 0, 1, 4, 0, 3, 0, 1, 0);
    }

    @Case(promise = 7, says = "(A breaker that begins to cut off in a tick has one tick less to go in the same one.)")
    static void trialCutsOffForOneTickInATick() {
        BreakerTrials x = Checks.trying("21,9");
        x.set(4, 1);
        x.callOften(0, 1, 21);
        Checks.dueStore("tries behind the same tick", x, 0, 2, 0, 0, 0, 1, 5, 0, 5, 0, 2, 9);
        Checks.due("without a trial on its way", x.call(0), 2);
    }

    @Case(promise = 7, says = "Then each breaker that cuts off has one tick less to go; with none to go it tries.")
    static void eachBreakerThatCutsOffHasATickLess() {
        BreakerTrials x = new BreakerTrials();
        for (int store = 0; store < 4; store++) {
            Checks.bring(x, store, "bbbb");
            x.pass(1);
        }
        for (int store = 0; store < 4; store++) {
            Checks.due("ticks left of store " + store, x.store(store, 3), 6 + store);
        }
        x.pass(7);
        Checks.due("two of them try", x.store(0, 0) + x.store(1, 0) + x.store(2, 0) + x.store(3, 0), 6);
    }

    @Case(promise = 7, says = "Then the tick has gone.")
    static void callsAreNoTicks() {
        BreakerTrials x = Checks.cutOff("5");
        x.callOften(0, 10, 0);
        Checks.due("no tick behind 14 calls", x.count(0), 0);
        Checks.due("ticks left", x.store(0, 3), 10);
    }

    public static void main(String[] args) throws Exception {
        Cases.run(BreakerCases.class, 5, 7);
    }
}
