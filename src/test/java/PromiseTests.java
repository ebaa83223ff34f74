import java.util.Arrays;

/** Each promise of ../shared/DOC.md by hand: ordinary inputs, edges, wrong inputs. */
public final class PromiseTests {
    private static final String INDEX = "IndexOutOfBoundsException";
    private static final String ARGUMENT = "IllegalArgumentException";
    private static final String STATE = "IllegalStateException";

    private static int wrong;

    private interface Call {
        void make();
    }

    private static void due(String call, long got, long want) {
        if (got != want) {
            wrong++;
            System.out.println(call + " answered " + got + ", due is " + want);
        }
    }

    private static void dueShare(String call, double got, double want) {
        if (Double.doubleToLongBits(got) != Double.doubleToLongBits(want)) {
            wrong++;
            System.out.println(call + " answered " + got + ", due is " + want);
        }
    }

    /** The call throws that exception, and changes nothing. */
    private static void dueThrow(BreakerTrials x, String call, Call made, String want) {
        long before = x.digest();
        String got = "nothing";
        try {
            made.make();
        } catch (RuntimeException e) {
            got = e.getClass().getSimpleName();
        }
        if (!got.equals(want)) {
            wrong++;
            System.out.println(call + " threw " + got + ", due is " + want);
        }
        due(call + " changes nothing: digest", x.digest(), before);
    }

    /** The numbers 0 to 10 of a store. */
    private static void dueStore(String place, BreakerTrials x, int store, int... want) {
        int[] got = new int[11];
        for (int what = 0; what < got.length; what++) {
            got[what] = x.store(store, what);
        }
        if (!Arrays.equals(got, want)) {
            wrong++;
            System.out.println(place + ": store " + store + " is " + Arrays.toString(got)
                    + ", due is " + Arrays.toString(want));
        }
    }

    private static void dueCounts(String place, BreakerTrials x, int... want) {
        int[] got = new int[9];
        for (int what = 0; what < got.length; what++) {
            got[what] = x.count(what);
        }
        if (!Arrays.equals(got, want)) {
            wrong++;
            System.out.println(place + ": counts are " + Arrays.toString(got) + ", due is " + Arrays.toString(want));
        }
    }

    private static void type(BreakerTrials x, String text) {
        for (int i = 0; i < text.length(); i++) {
            x.append(text.charAt(i));
        }
    }

    private static void row(BreakerTrials x, int store, String text) {
        type(x, text);
        x.delays(store);
    }

    private static BreakerTrials withRow(int store, String text) {
        BreakerTrials x = new BreakerTrials();
        row(x, store, text);
        return x;
    }

    /** 16 calls of store 1 are on their way, for 99 ticks. */
    private static BreakerTrials full() {
        BreakerTrials x = withRow(1, "99");
        x.callOften(1, 16, 0);
        return x;
    }

    private static void newObject() {
        BreakerTrials x = new BreakerTrials();
        due("NONE", BreakerTrials.NONE, -1);
        for (int store = 0; store < 4; store++) {
            dueStore("new", x, store, 0, 0, 0, 0, 0, 0, 0, 0, 0, 0, 5);
            due("new delay 0", x.delay(store, 0), 5);
            due("new delay 1", x.delay(store, 1), -1);
        }
        dueCounts("new", x, 0, 0, 0, 0, 0, 0, 4, 0, 0);
        int[] settings = {20, 4, 2, 10, 80};
        for (int setting = 0; setting < 5; setting++) {
            due("new setting " + setting, x.setting(setting), settings[setting]);
        }
        due("new clearBuffer", x.clearBuffer(), 0);
        dueThrow(x, "new undo", x::undo, STATE);
    }

    private static void call() {
        BreakerTrials x = withRow(0, "3,0,2");
        due("call", x.call(0), 1);
        due("call that fails at once", x.call(0), 1);
        due("call", x.call(0), 1);
        dueStore("three calls", x, 0, 0, 1, 1, 0, 0, 3, 0, 1, 2, 0, 3);
        x.call(0);
        x.call(0);
        x.call(0);
        x.call(0);
        due("fewer outcomes than the window", x.store(0, 0), 0);
        x.pass(2);
        dueStore("window full, two bad of four", x, 0, 1, 0, 0, 9, 10, 7, 0, 2, 3, 1, 0);
        due("refused", x.call(0), 0);
        due("refused so far", x.store(0, 6), 1);
        due("a refused call takes no delay", x.store(0, 10), 0);
        x.pass(9);
        due("tries", x.store(0, 0), 2);
        due("trial that fails at once", x.call(0), 2);
        dueStore("cut off for twice", x, 0, 1, 0, 0, 20, 20, 8, 1, 3, 0, 2, 2);
        x.pass(20);
        due("trial", x.call(0), 2);
        due("refused as a trial is on its way", x.call(0), 0);
        x.pass(2);
        dueStore("closed by a good trial", x, 0, 0, 0, 0, 0, 0, 9, 2, 3, 0, 2, 3);
        due("trials", x.count(7), 2);
        dueThrow(x, "call(4)", () -> x.call(4), INDEX);
        dueThrow(x, "call(-1)", () -> x.call(-1), INDEX);
    }

    private static void callWithoutRoom() {
        BreakerTrials x = full();
        row(x, 2, "0");
        dueThrow(x, "call without room", () -> x.call(0), STATE);
        dueThrow(x, "call with delay 0 without room", () -> x.call(2), STATE);
        dueThrow(x, "call(4) without room", () -> x.call(4), INDEX);
        BreakerTrials y = withRow(0, "0");
        y.callOften(0, 4, 0);
        row(y, 1, "99");
        y.callOften(1, 16, 0);
        due("refused without room", y.call(0), 0);
        y.pass(10);
        dueThrow(y, "trial without room", () -> y.call(0), STATE);
    }

    private static void slowness() {
        BreakerTrials x = withRow(0, "7,8");
        x.set(0, 7);
        x.callOften(0, 4, 8);
        dueStore("8 is slow, 7 is not", x, 0, 1, 0, 0, 9, 10, 4, 0, 2, 0, 1, 7);
        BreakerTrials y = withRow(0, "30");
        y.call(0);
        y.pass(29);
        y.set(0, 30);
        y.pass(1);
        due("slow by the setting as it is when answered", y.count(4), 0);
        BreakerTrials z = withRow(0, "10");
        z.set(0, 9);
        z.set(1, 2);
        z.callOften(0, 2, 0);
        z.set(0, 10);
        z.pass(10);
        due("good by the setting as it is when answered", z.count(5), 2);
    }

    private static void windowOfTheLast() {
        BreakerTrials x = withRow(0, "0,1,1,1");
        x.set(2, 5);
        x.set(1, 16);
        due("too few bad ones", x.callOften(0, 20, 1), 20);
        due("outcomes in a window of 16", x.store(0, 1), 16);
        due("bad ones of 16", x.store(0, 2), 4);
        x.set(2, 4);
        due("as many as are too many", x.callOften(0, 2, 0), 1);
        BreakerTrials y = withRow(0, "0");
        y.set(2, 1);
        due("no cut before the window is full", y.callOften(0, 9, 0), 4);
        BreakerTrials z = withRow(0, "0");
        z.set(2, 5);
        due("more than the window has", z.callOften(0, 50, 1), 50);
        due("closed", z.store(0, 0), 0);
    }

    private static void windowSettings() {
        BreakerTrials x = withRow(0, "0,0,1,1,1");
        x.set(2, 16);
        x.callOften(0, 20, 1);
        due("window of 4", x.store(0, 1), 4);
        due("bad ones of 4", x.store(0, 2), 1);
        x.set(1, 16);
        due("16 are known", x.store(0, 1), 16);
        due("bad ones of 16", x.store(0, 2), 6);
        x.set(1, 2);
        due("window of 2", x.store(0, 1), 2);
        due("bad ones of 2", x.store(0, 2), 0);
        x.set(1, 5);
        x.set(2, 2);
        due("a setting alone does not cut off", x.store(0, 0), 0);
        x.call(0);
        due("an outcome does", x.store(0, 0), 1);
        due("not closed: no window", x.store(0, 1) + x.store(0, 2), 0);
    }

    private static void outcomesThatDoNotCount() {
        BreakerTrials x = withRow(0, "30,0,0,0,0,1,9");
        x.call(0);
        x.callOften(0, 4, 0);
        due("cut off", x.store(0, 0), 1);
        x.pass(10);
        due("trial", x.call(0), 2);
        x.pass(1);
        due("closed anew", x.store(0, 0), 0);
        x.pass(19);
        dueStore("bad one from before", x, 0, 0, 0, 0, 0, 0, 6, 0, 5, 0, 1, 9);
        BreakerTrials y = withRow(0, "5,0,0,0,0,3");
        y.callOften(0, 5, 0);
        y.set(0, 4);
        y.pass(10);
        dueStore("bad one while it cuts off", y, 0, 2, 0, 0, 0, 10, 5, 0, 5, 0, 1, 3);
        y.call(0);
        due("closes a breaker with a trial", y.close(0), 2);
        due("is no trial any more", y.onWay(0, 3), 0);
        y.set(0, 1);
        y.set(1, 2);
        y.set(2, 1);
        y.pass(3);
        dueStore("outcome of what was a trial", y, 0, 0, 0, 0, 0, 0, 6, 0, 6, 0, 1, 5);
        due("it was a trial", y.count(7), 1);
    }

    private static void timesThatDouble() {
        BreakerTrials x = withRow(0, "0");
        x.set(4, 35);
        x.callOften(0, 4, 0);
        int[] cuts = {10, 20, 35, 35};
        for (int cut : cuts) {
            due("cut off for", x.store(0, 4), cut);
            due("left", x.store(0, 3), cut);
            x.pass(cut - 1);
            due("left", x.store(0, 3), 1);
            due("refused", x.call(0), 0);
            x.pass(1);
            due("trial", x.call(0), 2);
        }
        BreakerTrials y = withRow(0, "0");
        y.set(3, 7);
        y.set(4, 3);
        y.callOften(0, 4, 0);
        due("the first time whatever setting 4 is", y.store(0, 3), 7);
        y.set(3, 50);
        due("what is cut off stays so for its ticks", y.store(0, 3), 7);
        y.pass(7);
        y.call(0);
        due("at most setting 4", y.store(0, 3), 3);
        BreakerTrials z = withRow(0, "0,0,0,25");
        z.set(3, 1);
        z.callOften(0, 4, 0);
        z.pass(24);
        due("not yet", z.store(0, 0), 0);
        z.pass(1);
        dueStore("cut off for one tick in a tick: it tries behind it", z, 0, 2, 0, 0, 0, 1, 4, 0, 4, 0, 1, 0);
    }

    private static void callOften() {
        BreakerTrials x = withRow(0, "4,0,0,0,0,6");
        due("callOften", x.callOften(0, 7, 2), 4);
        dueStore("seven calls", x, 0, 1, 0, 0, 2, 10, 4, 3, 3, 0, 1, 0);
        due("ticks behind each call, refused ones too", x.count(0), 14);
        due("one saved state", x.count(8), 2);
        x.undo();
        dueCounts("undone as one call", x, 0, 0, 0, 0, 0, 0, 4, 0, 1);
        BreakerTrials y = withRow(1, "99");
        due("ends without room", y.callOften(1, 50, 1), 16);
        due("ticks behind the calls made", y.count(0), 16);
        due("none without room", y.callOften(2, 50, 50), 0);
        due("no ticks behind none", y.count(0), 16);
        due("a state saved all the same", y.count(8), 3);
        BreakerTrials z = full();
        z.set(0, 99);
        due("none", z.callOften(1, 1, 50), 0);
        BreakerTrials w = withRow(0, "50");
        w.set(0, 99);
        due("50 times 50 ticks", w.callOften(0, 50, 50), 50);
        due("ticks", w.count(0), 2500);
        dueThrow(x, "callOften(4, 0, 0)", () -> x.callOften(4, 0, 0), INDEX);
        dueThrow(x, "callOften(-1, 1, 0)", () -> x.callOften(-1, 1, 0), INDEX);
        dueThrow(x, "callOften(0, 0, 0)", () -> x.callOften(0, 0, 0), ARGUMENT);
        dueThrow(x, "callOften(0, 51, 0)", () -> x.callOften(0, 51, 0), ARGUMENT);
        dueThrow(x, "callOften(0, 1, -1)", () -> x.callOften(0, 1, -1), ARGUMENT);
        dueThrow(x, "callOften(0, 1, 51)", () -> x.callOften(0, 1, 51), ARGUMENT);
    }

    private static void callOftenRefusedWithoutRoom() {
        BreakerTrials x = withRow(0, "0");
        x.callOften(0, 4, 0);
        row(x, 1, "99");
        x.callOften(1, 16, 0);
        due("refused calls need no room", x.callOften(0, 8, 2), 0);
        due("refused until it tries", x.store(0, 6), 5);
        due("ticks", x.count(0), 10);
    }

    private static void callHealthiest() {
        BreakerTrials x = new BreakerTrials();
        for (int i = 0; i < 8; i++) {
            due("callHealthiest", x.callHealthiest(), i % 4);
        }
        due("let through", x.count(2), 8);
        BreakerTrials y = new BreakerTrials();
        y.set(1, 2);
        for (int store = 0; store < 4; store++) {
            row(y, store, "0");
            y.callOften(store, 2, 0);
        }
        due("none is closed", y.callHealthiest(), -1);
        due("nothing is called", y.count(2) * 100 + y.count(3), 800);
        y.undo();
        due("but a state is saved", y.store(3, 0), 1);
        y.undo();
        due("the one before the last", y.store(3, 0), 0);
        BreakerTrials z = full();
        dueThrow(z, "callHealthiest without room", z::callHealthiest, STATE);
    }

    private static void callHealthiestWithoutRoomOrClosed() {
        BreakerTrials x = new BreakerTrials();
        row(x, 3, "99,99,99,99,99,99,99,99,99,99,99,99,99,99,99,99,0,0,0,0");
        x.callOften(3, 15, 0);
        x.set(1, 2);
        for (int store = 0; store < 3; store++) {
            row(x, store, "0");
            x.callOften(store, 2, 0);
        }
        x.call(3);
        x.set(0, 98);
        due("16 on their way", x.count(1), 16);
        dueThrow(x, "callHealthiest without room", x::callHealthiest, STATE);
        BreakerTrials y = new BreakerTrials();
        row(y, 3, "99,99,99,99,99,99,99,99,99,99,99,99,99,99,99,0,0,99");
        y.set(1, 2);
        for (int store = 0; store < 3; store++) {
            row(y, store, "0");
            y.callOften(store, 2, 0);
        }
        y.callOften(3, 17, 0);
        y.pass(10);
        due("a trial as the 16th", y.call(3), 2);
        due("16 on their way", y.count(1), 16);
        due("none closed", y.healthiest(), -1);
        dueThrow(y, "callHealthiest without room and without a closed one", y::callHealthiest, STATE);
    }

    private static void close() {
        BreakerTrials x = withRow(0, "0,0,0,0,9");
        x.callOften(0, 3, 0);
        due("close a closed one", x.close(0), 0);
        dueStore("closed anew", x, 0, 0, 0, 0, 0, 0, 3, 0, 3, 0, 0, 0);
        x.callOften(0, 1, 0);
        due("an empty window", x.store(0, 1), 1);
        row(x, 0, "0");
        x.callOften(0, 3, 0);
        due("close one that cuts off", x.close(0), 1);
        dueStore("closed", x, 0, 0, 0, 0, 0, 0, 7, 0, 7, 0, 1, 0);
        x.callOften(0, 4, 0);
        due("the first time again", x.store(0, 4), 10);
        x.pass(10);
        due("close one that tries", x.close(0), 2);
        BreakerTrials y = withRow(0, "30");
        y.set(1, 2);
        y.callOften(0, 2, 0);
        y.close(0);
        y.pass(30);
        dueStore("let through before", y, 0, 0, 0, 0, 0, 0, 2, 0, 2, 0, 0, 30);
        y.callOften(0, 1, 30);
        due("let through behind it", y.store(0, 1), 1);
        y.close(0);
        y.set(0, 30);
        y.callOften(0, 2, 30);
        due("let through behind the second one", y.store(0, 1), 2);
        dueThrow(x, "close(4)", () -> x.close(4), INDEX);
        dueThrow(x, "close(-1)", () -> x.close(-1), INDEX);
    }

    private static void set() {
        BreakerTrials x = new BreakerTrials();
        int[] least = {1, 2, 1, 1, 1};
        int[] most = {99, 16, 16, 99, 999};
        int[] first = {20, 4, 2, 10, 80};
        for (int i = 0; i < 5; i++) {
            int setting = i;
            due("set", x.set(setting, least[i]), first[i]);
            due("set", x.set(setting, most[i]), least[i]);
            due("setting", x.setting(setting), most[i]);
            dueThrow(x, "set too low", () -> x.set(setting, least[setting] - 1), ARGUMENT);
            dueThrow(x, "set too high", () -> x.set(setting, most[setting] + 1), ARGUMENT);
        }
        dueThrow(x, "set(5, 0)", () -> x.set(5, 0), INDEX);
        dueThrow(x, "set(-1, 5)", () -> x.set(-1, 5), INDEX);
        due("set saves", x.count(8), 6);
    }

    private static void pass() {
        BreakerTrials x = withRow(0, "3,1,2,2");
        x.callOften(0, 4, 0);
        due("pass", x.pass(1), 1);
        due("pass", x.pass(1), 2);
        due("pass", x.pass(200), 1);
        due("ticks", x.count(0), 202);
        due("pass saves once", x.count(8), 5);
        x.undo();
        due("undone as one", x.count(0), 2);
        dueThrow(x, "pass(0)", () -> x.pass(0), ARGUMENT);
        dueThrow(x, "pass(-5)", () -> x.pass(-5), ARGUMENT);
        dueThrow(x, "pass(201)", () -> x.pass(201), ARGUMENT);
        BreakerTrials y = withRow(0, "0,0,0,4");
        row(y, 0, "0,0,4");
        y.set(1, 3);
        y.callOften(0, 3, 0);
        y.pass(4);
        dueStore("one tick less in the same tick", y, 0, 1, 0, 0, 9, 10, 3, 0, 2, 0, 1, 0);
    }

    /** In one tick, in the order in which they were let through, an outcome behind the cut does not count. */
    private static void orderInATick() {
        BreakerTrials x = withRow(0, "4,3,2,1");
        x.set(0, 1);
        x.set(1, 2);
        x.set(2, 2);
        x.callOften(0, 3, 1);
        due("all in one tick", x.count(1), 3);
        due("answered", x.pass(1), 3);
        dueStore("cut off behind the second", x, 0, 1, 0, 0, 9, 10, 3, 0, 3, 0, 1, 1);
        BreakerTrials y = withRow(0, "1,2");
        y.call(0);
        y.call(1);
        y.call(0);
        y.pass(1);
        due("the order stays", y.onWay(0, 0), 1);
        due("the order stays", y.onWay(1, 0), 0);
        due("none behind them", y.onWay(2, 0), -1);
        due("ticks to go", y.onWay(0, 1) * 10 + y.onWay(1, 1), 41);
        due("delays", y.onWay(0, 2) * 10 + y.onWay(1, 2), 52);
    }

    private static void append() {
        BreakerTrials x = new BreakerTrials();
        due("append(33)", x.append(33), 1);
        due("append(126)", x.append(126), 2);
        dueThrow(x, "append(32)", () -> x.append(32), ARGUMENT);
        dueThrow(x, "append(127)", () -> x.append(127), ARGUMENT);
        dueThrow(x, "append(-1)", () -> x.append(-1), ARGUMENT);
        for (int i = 3; i <= 60; i++) {
            due("append", x.append('1'), i);
        }
        dueThrow(x, "append behind 60", () -> x.append('1'), STATE);
        dueThrow(x, "append(32) behind 60", () -> x.append(32), ARGUMENT);
        due("append does not save", x.count(8), 0);
    }

    private static void clearBuffer() {
        BreakerTrials x = new BreakerTrials();
        due("clearBuffer", x.clearBuffer(), 0);
        type(x, "1,x");
        due("clearBuffer", x.clearBuffer(), 3);
        due("clearBuffer", x.clearBuffer(), 0);
        due("append", x.append('7'), 1);
        due("clearBuffer does not save", x.count(8), 0);
    }

    private static void dueError(String text, int want) {
        BreakerTrials x = new BreakerTrials();
        type(x, text);
        due("firstError of \"" + text + "\"", x.firstError(), want);
        boolean complete = want == text.length() && !text.isEmpty() && !text.endsWith(",");
        if (!complete) {
            dueThrow(x, "delays of \"" + text + "\"", () -> x.delays(0), ARGUMENT);
        } else {
            String[] numbers = text.split(",");
            due("delays", x.delays(0), 1);
            for (int i = 0; i < numbers.length; i++) {
                due("delay", x.delay(0, i), Integer.parseInt(numbers[i]));
            }
            due("delay", x.delay(0, numbers.length), -1);
        }
    }

    private static void firstError() {
        String twenty = "10,11,12,13,14,15,16,17,18,19,20,21,22,23,24,25,26,27,28,99";
        dueError("", 0);
        dueError("0", 1);
        dueError("9", 1);
        dueError("99", 2);
        dueError("00", 1);
        dueError("05", 1);
        dueError("100", 2);
        dueError("990", 2);
        dueError("5,", 2);
        dueError("5,,", 2);
        dueError(",5", 0);
        dueError("5,0,07", 5);
        dueError("5,0,7/", 5);
        dueError("5:", 1);
        dueError("-1", 0);
        dueError("1,2x,y", 3);
        dueError(twenty, 59);
        dueError(twenty + ",", 59);
        dueError(twenty + "0", 59);
        dueError("0,0,0,0,0,0,0,0,0,0,0,0,0,0,0,0,0,0,0,", 38);
        dueError("0,0,0,0,0,0,0,0,0,0,0,0,0,0,0,0,0,0,0,0,0", 39);
    }

    private static void delays() {
        BreakerTrials x = withRow(0, "1,2,3");
        x.call(0);
        type(x, "8,9");
        due("delays", x.delays(0), 3);
        due("the buffer is cleared", x.clearBuffer(), 0);
        due("from the first one on", x.store(0, 10), 8);
        due("delay", x.delay(0, 2), -1);
        due("a call on its way keeps its delay", x.onWay(0, 2), 1);
        due("delays saves", x.count(8), 3);
        type(x, "4");
        x.undo();
        due("undone", x.delay(0, 2), 3);
        due("undone", x.store(0, 10), 2);
        due("undo leaves the buffer", x.clearBuffer(), 1);
        dueThrow(x, "delays of nothing", () -> x.delays(0), ARGUMENT);
        dueThrow(x, "delays(4) of nothing", () -> x.delays(4), INDEX);
        type(x, "7");
        dueThrow(x, "delays(4)", () -> x.delays(4), INDEX);
        dueThrow(x, "delays(-1)", () -> x.delays(-1), INDEX);
        type(x, ",");
        dueThrow(x, "delays of 7,", () -> x.delays(1), ARGUMENT);
    }

    private static void undo() {
        BreakerTrials x = withRow(0, "0,7");
        long[] digests = new long[9];
        for (int i = 0; i < 8; i++) {
            digests[i] = x.digest();
            if (i < 4) {
                x.call(0);
            } else {
                x.pass(i);
            }
        }
        due("at most 6 are saved", x.count(8), 6);
        for (int left = 5; left >= 0; left--) {
            due("undo", x.undo(), left);
            due("saved states", x.count(8), left);
        }
        due("the oldest two are dropped", x.count(2), 2);
        dueThrow(x, "undo of none", x::undo, STATE);
        BreakerTrials y = withRow(0, "0,7");
        for (int i = 0; i < 5; i++) {
            long before = y.digest();
            y.callOften(0, 3, 4);
            y.undo();
            due("digest behind undo", y.digest(), before);
            y.callHealthiest();
        }
        due("undo is not undoable", y.count(8), 6);
        BreakerTrials z = new BreakerTrials();
        z.close(2);
        z.set(0, 20);
        due("saved though nothing changed", z.count(8), 2);
        z.call(1);
        z.undo();
        due("calls on their way undone", z.onWay(0, 0), -1);
    }

    /** A state with a trial, cuts, slow calls and other settings comes back whole. */
    private static void undoOfAll() {
        BreakerTrials x = withRow(0, "0,0,9,9,0,7");
        x.set(1, 2);
        x.set(3, 4);
        x.callOften(0, 6, 4);
        x.undo();
        for (int kind = 0; kind < 8; kind++) {
            long before = x.digest();
            changeAll(x, kind);
            due("another digest behind kind " + kind, x.digest() == before ? 1 : 0, 0);
            x.undo();
            due("digest behind undo of kind " + kind, x.digest(), before);
            due("undo brings back count 8", x.count(8), 3);
        }
        x.callOften(0, 3, 4);
        x.undo();
        x.callOften(0, 3, 3);
        long before = x.digest();
        for (int kind = 0; kind < 8; kind++) {
            changeAll(x, kind);
            x.undo();
            due("digest behind undo of kind " + kind, x.digest(), before);
        }
    }

    private static void changeAll(BreakerTrials x, int kind) {
        switch (kind) {
            case 0: x.call(0); break;
            case 1: x.callOften(0, 20, 3); break;
            case 2: x.callHealthiest(); break;
            case 3: x.close(0); break;
            case 4: x.set(4, 7); break;
            case 5: x.pass(5); break;
            case 6: x.set(0, 8); break;
            default: x.callOften(0, 50, 7); break;
        }
    }

    private static void store() {
        BreakerTrials x = withRow(3, "1,30,0");
        x.callOften(3, 5, 1);
        dueStore("store", x, 3, 0, 3, 1, 0, 0, 5, 0, 1, 2, 0, 0);
        dueStore("another store", x, 2, 0, 0, 0, 0, 0, 0, 0, 0, 0, 0, 5);
        dueThrow(x, "store(4, 0)", () -> x.store(4, 0), INDEX);
        dueThrow(x, "store(-1, 11)", () -> x.store(-1, 11), INDEX);
        dueThrow(x, "store(0, 11)", () -> x.store(0, 11), ARGUMENT);
        dueThrow(x, "store(0, -1)", () -> x.store(0, -1), ARGUMENT);
    }

    private static void delay() {
        BreakerTrials x = withRow(2, "4,5,6");
        due("delay", x.delay(2, 0) * 100 + x.delay(2, 1) * 10 + x.delay(2, 2), 456);
        due("delay(2, 3)", x.delay(2, 3), -1);
        due("delay(2, 20)", x.delay(2, 20), -1);
        due("delay(2, MAX)", x.delay(2, Integer.MAX_VALUE), -1);
        dueThrow(x, "delay(4, -1)", () -> x.delay(4, -1), INDEX);
        dueThrow(x, "delay(-1, 0)", () -> x.delay(-1, 0), INDEX);
        dueThrow(x, "delay(0, -1)", () -> x.delay(0, -1), ARGUMENT);
    }

    private static void onWay() {
        BreakerTrials x = withRow(1, "0,0,0,0,17");
        x.callOften(1, 4, 0);
        x.call(2);
        x.pass(4);
        x.pass(6);
        x.call(3);
        due("trial", x.call(1), 2);
        x.pass(1);
        int[] want = {3, 4, 5, 0, 1, 16, 17, 1};
        for (int i = 0; i < 8; i++) {
            due("onWay(" + i / 4 + ", " + i % 4 + ")", x.onWay(i / 4, i % 4), want[i]);
        }
        due("onWay(2, 0)", x.onWay(2, 0), -1);
        due("onWay(16, 0)", x.onWay(16, 0), -1);
        due("onWay(MAX, 3)", x.onWay(Integer.MAX_VALUE, 3), -1);
        due("onWay(15, 0)", full().onWay(15, 0), 1);
        due("onWay(16, 0)", full().onWay(16, 0), -1);
        dueThrow(x, "onWay(-1, 0)", () -> x.onWay(-1, 0), ARGUMENT);
        dueThrow(x, "onWay(0, -1)", () -> x.onWay(0, -1), ARGUMENT);
        dueThrow(x, "onWay(9, 4)", () -> x.onWay(9, 4), ARGUMENT);
    }

    private static void count() {
        BreakerTrials x = withRow(1, "0,0,1,0");
        x.callOften(1, 5, 1);
        x.call(1);
        x.call(0);
        x.callOften(1, 2, 4);
        dueCounts("count", x, 13, 0, 5, 4, 3, 2, 3, 0, 5);
        x.call(1);
        dueCounts("count behind a trial", x, 13, 0, 6, 4, 4, 2, 3, 1, 6);
        dueThrow(x, "count(9)", () -> x.count(9), ARGUMENT);
        dueThrow(x, "count(-1)", () -> x.count(-1), ARGUMENT);
    }

    private static void setting() {
        BreakerTrials x = new BreakerTrials();
        x.set(4, 123);
        due("setting", x.setting(4), 123);
        due("setting", x.setting(3), 10);
        dueThrow(x, "setting(5)", () -> x.setting(5), INDEX);
        dueThrow(x, "setting(-1)", () -> x.setting(-1), INDEX);
    }

    private static void ifCalled() {
        BreakerTrials x = withRow(0, "0");
        row(x, 1, "30");
        x.call(1);
        long before = x.digest();
        due("would be let through", x.ifCalled(0, 8, 5, 0), 5);
        due("would be refused", x.ifCalled(0, 8, 5, 1), 3);
        due("bad outcomes of all stores", x.ifCalled(0, 8, 5, 2), 6);
        due("the breaker then", x.ifCalled(0, 8, 5, 3), 1);
        due("nothing is changed", x.digest(), before);
        x.callOften(0, 8, 5);
        due("bad outcomes that would come alone", x.ifCalled(0, 1, 0, 2), 0);
        due("would be refused", x.ifCalled(0, 1, 0, 1), 1);
        BreakerTrials y = full();
        due("no room", y.ifCalled(0, 5, 0, 0), 0);
        due("no room is no refusal", y.ifCalled(0, 5, 0, 1), 0);
        dueThrow(x, "ifCalled(4, 0, 0, 9)", () -> x.ifCalled(4, 0, 0, 9), INDEX);
        dueThrow(x, "ifCalled(-1, 1, 0, 0)", () -> x.ifCalled(-1, 1, 0, 0), INDEX);
        dueThrow(x, "ifCalled(0, 0, 0, 0)", () -> x.ifCalled(0, 0, 0, 0), ARGUMENT);
        dueThrow(x, "ifCalled(0, 51, 0, 0)", () -> x.ifCalled(0, 51, 0, 0), ARGUMENT);
        dueThrow(x, "ifCalled(0, 1, -1, 0)", () -> x.ifCalled(0, 1, -1, 0), ARGUMENT);
        dueThrow(x, "ifCalled(0, 1, 51, 0)", () -> x.ifCalled(0, 1, 51, 0), ARGUMENT);
        dueThrow(x, "ifCalled(0, 1, 0, 4)", () -> x.ifCalled(0, 1, 0, 4), ARGUMENT);
        dueThrow(x, "ifCalled(0, 1, 0, -1)", () -> x.ifCalled(0, 1, 0, -1), ARGUMENT);
    }

    private static void freeIn() {
        BreakerTrials x = withRow(0, "0,0,0,0,8,30");
        due("closed", x.freeIn(0), 0);
        x.callOften(0, 4, 0);
        due("cuts off", x.freeIn(0), 10);
        x.pass(3);
        due("cuts off", x.freeIn(0), 7);
        x.pass(7);
        due("tries", x.freeIn(0), 0);
        x.call(0);
        due("good trial on its way", x.freeIn(0), 8);
        x.set(0, 7);
        due("bad trial on its way", x.freeIn(0), 8 + 20 - 1);
        x.set(4, 5);
        due("at most setting 4", x.freeIn(0), 8 + 5 - 1);
        x.set(4, 1);
        due("for one tick", x.freeIn(0), 8);
        due("room does not matter", full().freeIn(0), 0);
        dueThrow(x, "freeIn(4)", () -> x.freeIn(4), INDEX);
        dueThrow(x, "freeIn(-1)", () -> x.freeIn(-1), INDEX);
        BreakerTrials y = withRow(1, "0");
        y.set(3, 99);
        y.set(4, 999);
        y.callOften(1, 4, 0);
        for (int i = 0; i < 4; i++) {
            y.pass(Math.min(200, y.freeIn(1)));
            while (y.freeIn(1) > 0) {
                y.pass(Math.min(200, y.freeIn(1)));
            }
            if (i < 3) {
                due("trial", y.call(1), 2);
            }
        }
        due("the last time", y.store(1, 4), 792);
        row(y, 1, "1,2");
        y.set(0, 1);
        due("trial of delay 1", y.call(1), 2);
        due("good", y.freeIn(1), 1);
        y.undo();
        row(y, 1, "2");
        y.call(1);
        due("behind 1000", y.freeIn(1), -1);
        y.pass(1);
        due("behind 999", y.freeIn(1), 999);
    }

    private static void healthiest() {
        BreakerTrials x = new BreakerTrials();
        due("the lowest", x.healthiest(), 0);
        x.call(0);
        due("the fewest on their way", x.healthiest(), 1);
        row(x, 1, "0,50");
        row(x, 2, "0,0");
        x.call(1);
        x.call(2);
        x.call(3);
        x.call(3);
        due("the fewest bad before the fewest on their way", x.healthiest(), 0);
        x.call(0);
        due("the lowest of equal ones", x.healthiest(), 0);
        x.call(0);
        due("fewest on their way", x.healthiest(), 3);
        x.set(1, 2);
        row(x, 3, "0,0");
        x.callOften(3, 2, 0);
        row(x, 0, "0");
        x.callOften(0, 2, 0);
        due("closed ones alone", x.store(0, 0) * 10 + x.store(3, 0), 11);
        due("closed ones alone", x.healthiest(), 1);
        x.call(1);
        due("fewest on their way", x.healthiest(), 2);
        x.call(2);
        x.pass(5);
        due("closed one that is left", x.healthiest(), 1);
        x.close(0);
        due("an empty window", x.healthiest(), 0);
    }

    private static void health() {
        BreakerTrials x = withRow(0, "0,1,1");
        dueShare("health without any", x.health(), 1.0);
        x.call(0);
        dueShare("none good", x.health(), 0.0);
        x.callOften(0, 1, 1);
        dueShare("half", x.health(), 0.5);
        x.callOften(0, 1, 1);
        dueShare("two of three", x.health(), 2.0 / 3.0);
        BreakerTrials y = new BreakerTrials();
        y.call(0);
        dueShare("on its way is no outcome", y.health(), 1.0);
        y.pass(5);
        dueShare("all good", y.health(), 1.0);
    }

    /** The list of promise 22, from the answers of the other calls. */
    private static long digestOf(BreakerTrials x, String buffer) {
        long hash = 3037;
        for (int what = 0; what <= 8; what++) {
            hash = 31 * hash + x.count(what);
        }
        for (int setting = 0; setting < 5; setting++) {
            hash = 31 * hash + x.setting(setting);
        }
        for (int store = 0; store < 4; store++) {
            for (int what = 0; what <= 10; what++) {
                hash = 31 * hash + x.store(store, what);
            }
            for (int place = 0; x.delay(store, place) != -1; place++) {
                hash = 31 * hash + x.delay(store, place);
            }
            hash = 31 * hash + x.freeIn(store);
            for (int what = 0; what <= 3; what++) {
                hash = 31 * hash + x.ifCalled(store, 6, 3, what);
            }
        }
        for (int place = 0; x.onWay(place, 0) != -1; place++) {
            for (int what = 0; what <= 3; what++) {
                hash = 31 * hash + x.onWay(place, what);
            }
        }
        hash = 31 * hash + x.healthiest();
        hash = 31 * hash + Double.doubleToLongBits(x.health());
        hash = 31 * hash + buffer.length();
        for (int i = 0; i < buffer.length(); i++) {
            hash = 31 * hash + buffer.charAt(i);
        }
        return hash;
    }

    private static void digest() {
        BreakerTrials x = new BreakerTrials();
        due("digest", x.digest(), digestOf(x, ""));
        row(x, 0, "0,6,1,0,2,40");
        row(x, 2, "0");
        type(x, "5,~");
        due("digest", x.digest(), digestOf(x, "5,~"));
        for (int i = 0; i < 300; i++) {
            x.callOften(i % 3 == 0 ? 2 : 0, 1 + i % 5, i % 4);
            due("digest", x.digest(), digestOf(x, "5,~"));
        }
        due("looks do not save", x.count(8), 6);
        BreakerTrials y = new BreakerTrials();
        due("digest again", y.digest(), y.digest());
    }

    public static void main(String[] args) {
        newObject();
        call();
        callWithoutRoom();
        slowness();
        windowOfTheLast();
        windowSettings();
        outcomesThatDoNotCount();
        timesThatDouble();
        callOften();
        callOftenRefusedWithoutRoom();
        callHealthiest();
        callHealthiestWithoutRoomOrClosed();
        close();
        set();
        pass();
        orderInATick();
        append();
        clearBuffer();
        firstError();
        delays();
        undo();
        undoOfAll();
        store();
        delay();
        onWay();
        count();
        setting();
        ifCalled();
        freeIn();
        healthiest();
        health();
        digest();
        System.out.println(wrong == 0 ? "all promises hold" : wrong + " answers are not as due");
        if (wrong != 0) {
            System.exit(1);
        }
    }
}
