/** Each promise of ../shared/DOC.md by hand: ordinary inputs, edges, wrong inputs. */
public final class PromiseTests {
    private static void newObject() {
        BreakerTrials x = new BreakerTrials();
        Checks.due("NONE", BreakerTrials.NONE, -1);
        for (int store = 0; store < 4; store++) {
            Checks.dueStore("new", x, store, 0, 0, 0, 0, 0, 0, 0, 0, 0, 0, 5);
            Checks.due("new delay 0", x.delay(store, 0), 5);
            Checks.due("new delay 1", x.delay(store, 1), -1);
        }
        Checks.dueCounts("new", x, 0, 0, 0, 0, 0, 0, 4, 0, 0);
        int[] settings = {20, 4, 2, 10, 80};
        for (int setting = 0; setting < 5; setting++) {
            Checks.due("new setting " + setting, x.setting(setting), settings[setting]);
        }
        Checks.due("new clearBuffer", x.clearBuffer(), 0);
        Checks.dueThrow(x, "new undo", x::undo, Checks.STATE);
    }

    private static void call() {
        BreakerTrials x = Checks.withRow(0, "3,0,2");
        Checks.due("call", x.call(0), 1);
        Checks.due("call that fails at once", x.call(0), 1);
        Checks.due("call", x.call(0), 1);
        Checks.dueStore("three calls", x, 0, 0, 1, 1, 0, 0, 3, 0, 1, 2, 0, 3);
        x.call(0);
        x.call(0);
        x.call(0);
        x.call(0);
        Checks.due("fewer outcomes than the window", x.store(0, 0), 0);
        x.pass(2);
        Checks.dueStore("window full, two bad of four", x, 0, 1, 0, 0, 9, 10, 7, 0, 2, 3, 1, 0);
        Checks.due("refused", x.call(0), 0);
        Checks.due("refused so far", x.store(0, 6), 1);
        Checks.due("a refused call takes no delay", x.store(0, 10), 0);
        x.pass(9);
        Checks.due("tries", x.store(0, 0), 2);
        Checks.due("trial that fails at once", x.call(0), 2);
        Checks.dueStore("cut off for twice", x, 0, 1, 0, 0, 20, 20, 8, 1, 3, 0, 2, 2);
        x.pass(20);
        Checks.due("trial", x.call(0), 2);
        Checks.due("refused as a trial is on its way", x.call(0), 0);
        x.pass(2);
        Checks.dueStore("closed by a good trial", x, 0, 0, 0, 0, 0, 0, 9, 2, 3, 0, 2, 3);
        Checks.due("trials", x.count(7), 2);
        Checks.dueThrow(x, "call(4)", () -> x.call(4), Checks.INDEX);
        Checks.dueThrow(x, "call(-1)", () -> x.call(-1), Checks.INDEX);
    }

    private static void callWithoutRoom() {
        BreakerTrials x = Checks.full();
        Checks.row(x, 2, "0");
        Checks.dueThrow(x, "call without room", () -> x.call(0), Checks.STATE);
        Checks.dueThrow(x, "call with delay 0 without room", () -> x.call(2), Checks.STATE);
        Checks.dueThrow(x, "call(4) without room", () -> x.call(4), Checks.INDEX);
        BreakerTrials y = Checks.withRow(0, "0");
        y.callOften(0, 4, 0);
        Checks.row(y, 1, "99");
        y.callOften(1, 16, 0);
        Checks.due("refused without room", y.call(0), 0);
        y.pass(10);
        Checks.dueThrow(y, "trial without room", () -> y.call(0), Checks.STATE);
    }

    private static void slowness() {
        BreakerTrials x = Checks.withRow(0, "7,8");
        x.set(0, 7);
        x.callOften(0, 4, 8);
        Checks.dueStore("8 is slow, 7 is not", x, 0, 1, 0, 0, 9, 10, 4, 0, 2, 0, 1, 7);
        BreakerTrials y = Checks.withRow(0, "30");
        y.call(0);
        y.pass(29);
        y.set(0, 30);
        y.pass(1);
        Checks.due("slow by the setting as it is when answered", y.count(4), 0);
        BreakerTrials z = Checks.withRow(0, "10");
        z.set(0, 9);
        z.set(1, 2);
        z.callOften(0, 2, 0);
        z.set(0, 10);
        z.pass(10);
        Checks.due("good by the setting as it is when answered", z.count(5), 2);
    }

    private static void windowOfTheLast() {
        BreakerTrials x = Checks.withRow(0, "0,1,1,1");
        x.set(2, 5);
        x.set(1, 16);
        Checks.due("too few bad ones", x.callOften(0, 20, 1), 20);
        Checks.due("outcomes in a window of 16", x.store(0, 1), 16);
        Checks.due("bad ones of 16", x.store(0, 2), 4);
        x.set(2, 4);
        Checks.due("as many as are too many", x.callOften(0, 2, 0), 1);
        BreakerTrials y = Checks.withRow(0, "0");
        y.set(2, 1);
        Checks.due("no cut before the window is full", y.callOften(0, 9, 0), 4);
        BreakerTrials z = Checks.withRow(0, "0");
        z.set(2, 5);
        Checks.due("more than the window has", z.callOften(0, 50, 1), 50);
        Checks.due("closed", z.store(0, 0), 0);
    }

    private static void windowSettings() {
        BreakerTrials x = Checks.withRow(0, "0,0,1,1,1");
        x.set(2, 16);
        x.callOften(0, 20, 1);
        Checks.due("window of 4", x.store(0, 1), 4);
        Checks.due("bad ones of 4", x.store(0, 2), 1);
        x.set(1, 16);
        Checks.due("16 are known", x.store(0, 1), 16);
        Checks.due("bad ones of 16", x.store(0, 2), 6);
        x.set(1, 2);
        Checks.due("window of 2", x.store(0, 1), 2);
        Checks.due("bad ones of 2", x.store(0, 2), 0);
        x.set(1, 5);
        x.set(2, 2);
        Checks.due("a setting alone does not cut off", x.store(0, 0), 0);
        x.call(0);
        Checks.due("an outcome does", x.store(0, 0), 1);
        Checks.due("not closed: no window", x.store(0, 1) + x.store(0, 2), 0);
    }

    private static void outcomesThatDoNotCount() {
        BreakerTrials x = Checks.withRow(0, "30,0,0,0,0,1,9");
        x.call(0);
        x.callOften(0, 4, 0);
        Checks.due("cut off", x.store(0, 0), 1);
        x.pass(10);
        Checks.due("trial", x.call(0), 2);
        x.pass(1);
        Checks.due("closed anew", x.store(0, 0), 0);
        x.pass(19);
        Checks.dueStore("bad one from before", x, 0, 0, 0, 0, 0, 0, 6, 0, 5, 0, 1, 9);
        BreakerTrials y = Checks.withRow(0, "5,0,0,0,0,3");
        y.callOften(0, 5, 0);
        y.set(0, 4);
        y.pass(10);
        Checks.dueStore("bad one while it cuts off", y, 0, 2, 0, 0, 0, 10, 5, 0, 5, 0, 1, 3);
        y.call(0);
        Checks.due("closes a breaker with a trial", y.close(0), 2);
        Checks.due("is no trial any more", y.onWay(0, 3), 0);
        y.set(0, 1);
        y.set(1, 2);
        y.set(2, 1);
        y.pass(3);
        Checks.dueStore("outcome of what was a trial", y, 0, 0, 0, 0, 0, 0, 6, 0, 6, 0, 1, 5);
        Checks.due("it was a trial", y.count(7), 1);
    }

    private static void timesThatDouble() {
        BreakerTrials x = Checks.withRow(0, "0");
        x.set(4, 35);
        x.callOften(0, 4, 0);
        int[] cuts = {10, 20, 35, 35};
        for (int cut : cuts) {
            Checks.due("cut off for", x.store(0, 4), cut);
            Checks.due("left", x.store(0, 3), cut);
            x.pass(cut - 1);
            Checks.due("left", x.store(0, 3), 1);
            Checks.due("refused", x.call(0), 0);
            x.pass(1);
            Checks.due("trial", x.call(0), 2);
        }
        BreakerTrials y = Checks.withRow(0, "0");
        y.set(3, 7);
        y.set(4, 3);
        y.callOften(0, 4, 0);
        Checks.due("the first time whatever setting 4 is", y.store(0, 3), 7);
        y.set(3, 50);
        Checks.due("what is cut off stays so for its ticks", y.store(0, 3), 7);
        y.pass(7);
        y.call(0);
        Checks.due("at most setting 4", y.store(0, 3), 3);
        BreakerTrials z = Checks.withRow(0, "0,0,0,25");
        z.set(3, 1);
        z.callOften(0, 4, 0);
        z.pass(24);
        Checks.due("not yet", z.store(0, 0), 0);
        z.pass(1);
        Checks.dueStore("cut off for one tick in a tick: it tries behind it", z, 0, 2, 0, 0, 0, 1, 4, 0, 4, 0, 1, 0);
    }

    private static void callOften() {
        BreakerTrials x = Checks.withRow(0, "4,0,0,0,0,6");
        Checks.due("callOften", x.callOften(0, 7, 2), 4);
        Checks.dueStore("seven calls", x, 0, 1, 0, 0, 2, 10, 4, 3, 3, 0, 1, 0);
        Checks.due("ticks behind each call, refused ones too", x.count(0), 14);
        Checks.due("one saved state", x.count(8), 2);
        x.undo();
        Checks.dueCounts("undone as one call", x, 0, 0, 0, 0, 0, 0, 4, 0, 1);
        BreakerTrials y = Checks.withRow(1, "99");
        Checks.due("ends without room", y.callOften(1, 50, 1), 16);
        Checks.due("ticks behind the calls made", y.count(0), 16);
        Checks.due("none without room", y.callOften(2, 50, 50), 0);
        Checks.due("no ticks behind none", y.count(0), 16);
        Checks.due("a state saved all the same", y.count(8), 3);
        BreakerTrials z = Checks.full();
        z.set(0, 99);
        Checks.due("none", z.callOften(1, 1, 50), 0);
        BreakerTrials w = Checks.withRow(0, "50");
        w.set(0, 99);
        Checks.due("50 times 50 ticks", w.callOften(0, 50, 50), 50);
        Checks.due("ticks", w.count(0), 2500);
        Checks.dueThrow(x, "callOften(4, 0, 0)", () -> x.callOften(4, 0, 0), Checks.INDEX);
        Checks.dueThrow(x, "callOften(-1, 1, 0)", () -> x.callOften(-1, 1, 0), Checks.INDEX);
        Checks.dueThrow(x, "callOften(0, 0, 0)", () -> x.callOften(0, 0, 0), Checks.ARGUMENT);
        Checks.dueThrow(x, "callOften(0, 51, 0)", () -> x.callOften(0, 51, 0), Checks.ARGUMENT);
        Checks.dueThrow(x, "callOften(0, 1, -1)", () -> x.callOften(0, 1, -1), Checks.ARGUMENT);
        Checks.dueThrow(x, "callOften(0, 1, 51)", () -> x.callOften(0, 1, 51), Checks.ARGUMENT);
    }

    private static void callOftenRefusedWithoutRoom() {
        BreakerTrials x = Checks.withRow(0, "0");
        x.callOften(0, 4, 0);
        Checks.row(x, 1, "99");
        x.callOften(1, 16, 0);
        Checks.due("refused calls need no room", x.callOften(0, 8, 2), 0);
        Checks.due("refused until it tries", x.store(0, 6), 5);
        Checks.due("ticks", x.count(0), 10);
    }

    private static void callHealthiest() {
        BreakerTrials x = new BreakerTrials();
        for (int i = 0; i < 8; i++) {
            Checks.due("callHealthiest", x.callHealthiest(), i % 4);
        }
        Checks.due("let through", x.count(2), 8);
        BreakerTrials y = new BreakerTrials();
        y.set(1, 2);
        for (int store = 0; store < 4; store++) {
            Checks.row(y, store, "0");
            y.callOften(store, 2, 0);
        }
        Checks.due("none is closed", y.callHealthiest(), -1);
        Checks.due("nothing is called", y.count(2) * 100 + y.count(3), 800);
        y.undo();
        Checks.due("but a state is saved", y.store(3, 0), 1);
        y.undo();
        Checks.due("the one before the last", y.store(3, 0), 0);
        BreakerTrials z = Checks.full();
        Checks.dueThrow(z, "callHealthiest without room", z::callHealthiest, Checks.STATE);
    }

    private static void callHealthiestWithoutRoomOrClosed() {
        BreakerTrials x = new BreakerTrials();
        Checks.row(x, 3, "99,99,99,99,99,99,99,99,99,99,99,99,99,99,99,99,0,0,0,0");
        x.callOften(3, 15, 0);
        x.set(1, 2);
        for (int store = 0; store < 3; store++) {
            Checks.row(x, store, "0");
            x.callOften(store, 2, 0);
        }
        x.call(3);
        x.set(0, 98);
        Checks.due("16 on their way", x.count(1), 16);
        Checks.dueThrow(x, "callHealthiest without room", x::callHealthiest, Checks.STATE);
        BreakerTrials y = new BreakerTrials();
        Checks.row(y, 3, "99,99,99,99,99,99,99,99,99,99,99,99,99,99,99,0,0,99");
        y.set(1, 2);
        for (int store = 0; store < 3; store++) {
            Checks.row(y, store, "0");
            y.callOften(store, 2, 0);
        }
        y.callOften(3, 17, 0);
        y.pass(10);
        Checks.due("a trial as the 16th", y.call(3), 2);
        Checks.due("16 on their way", y.count(1), 16);
        Checks.due("none closed", y.healthiest(), -1);
        Checks.dueThrow(y, "callHealthiest without room and without a closed one", y::callHealthiest, Checks.STATE);
    }

    private static void close() {
        BreakerTrials x = Checks.withRow(0, "0,0,0,0,9");
        x.callOften(0, 3, 0);
        Checks.due("close a closed one", x.close(0), 0);
        Checks.dueStore("closed anew", x, 0, 0, 0, 0, 0, 0, 3, 0, 3, 0, 0, 0);
        x.callOften(0, 1, 0);
        Checks.due("an empty window", x.store(0, 1), 1);
        Checks.row(x, 0, "0");
        x.callOften(0, 3, 0);
        Checks.due("close one that cuts off", x.close(0), 1);
        Checks.dueStore("closed", x, 0, 0, 0, 0, 0, 0, 7, 0, 7, 0, 1, 0);
        x.callOften(0, 4, 0);
        Checks.due("the first time again", x.store(0, 4), 10);
        x.pass(10);
        Checks.due("close one that tries", x.close(0), 2);
        BreakerTrials y = Checks.withRow(0, "30");
        y.set(1, 2);
        y.callOften(0, 2, 0);
        y.close(0);
        y.pass(30);
        Checks.dueStore("let through before", y, 0, 0, 0, 0, 0, 0, 2, 0, 2, 0, 0, 30);
        y.callOften(0, 1, 30);
        Checks.due("let through behind it", y.store(0, 1), 1);
        y.close(0);
        y.set(0, 30);
        y.callOften(0, 2, 30);
        Checks.due("let through behind the second one", y.store(0, 1), 2);
        Checks.dueThrow(x, "close(4)", () -> x.close(4), Checks.INDEX);
        Checks.dueThrow(x, "close(-1)", () -> x.close(-1), Checks.INDEX);
    }

    private static void set() {
        BreakerTrials x = new BreakerTrials();
        int[] least = {1, 2, 1, 1, 1};
        int[] most = {99, 16, 16, 99, 999};
        int[] first = {20, 4, 2, 10, 80};
        for (int i = 0; i < 5; i++) {
            int setting = i;
            Checks.due("set", x.set(setting, least[i]), first[i]);
            Checks.due("set", x.set(setting, most[i]), least[i]);
            Checks.due("setting", x.setting(setting), most[i]);
            Checks.dueThrow(x, "set too low", () -> x.set(setting, least[setting] - 1), Checks.ARGUMENT);
            Checks.dueThrow(x, "set too high", () -> x.set(setting, most[setting] + 1), Checks.ARGUMENT);
        }
        Checks.dueThrow(x, "set(5, 0)", () -> x.set(5, 0), Checks.INDEX);
        Checks.dueThrow(x, "set(-1, 5)", () -> x.set(-1, 5), Checks.INDEX);
        Checks.due("set saves", x.count(8), 6);
    }

    private static void pass() {
        BreakerTrials x = Checks.withRow(0, "3,1,2,2");
        x.callOften(0, 4, 0);
        Checks.due("pass", x.pass(1), 1);
        Checks.due("pass", x.pass(1), 2);
        Checks.due("pass", x.pass(200), 1);
        Checks.due("ticks", x.count(0), 202);
        Checks.due("pass saves once", x.count(8), 5);
        x.undo();
        Checks.due("undone as one", x.count(0), 2);
        Checks.dueThrow(x, "pass(0)", () -> x.pass(0), Checks.ARGUMENT);
        Checks.dueThrow(x, "pass(-5)", () -> x.pass(-5), Checks.ARGUMENT);
        Checks.dueThrow(x, "pass(201)", () -> x.pass(201), Checks.ARGUMENT);
        BreakerTrials y = Checks.withRow(0, "0,0,0,4");
        Checks.row(y, 0, "0,0,4");
        y.set(1, 3);
        y.callOften(0, 3, 0);
        y.pass(4);
        Checks.dueStore("one tick less in the same tick", y, 0, 1, 0, 0, 9, 10, 3, 0, 2, 0, 1, 0);
    }

    /** In one tick, in the order in which they were let through, an outcome behind the cut does not count. */
    private static void orderInATick() {
        BreakerTrials x = Checks.withRow(0, "4,3,2,1");
        x.set(0, 1);
        x.set(1, 2);
        x.set(2, 2);
        x.callOften(0, 3, 1);
        Checks.due("all in one tick", x.count(1), 3);
        Checks.due("answered", x.pass(1), 3);
        Checks.dueStore("cut off behind the second", x, 0, 1, 0, 0, 9, 10, 3, 0, 3, 0, 1, 1);
        BreakerTrials y = Checks.withRow(0, "1,2");
        y.call(0);
        y.call(1);
        y.call(0);
        y.pass(1);
        Checks.due("the order stays", y.onWay(0, 0), 1);
        Checks.due("the order stays", y.onWay(1, 0), 0);
        Checks.due("none behind them", y.onWay(2, 0), -1);
        Checks.due("ticks to go", y.onWay(0, 1) * 10 + y.onWay(1, 1), 41);
        Checks.due("delays", y.onWay(0, 2) * 10 + y.onWay(1, 2), 52);
    }

    private static void append() {
        BreakerTrials x = new BreakerTrials();
        Checks.due("append(33)", x.append(33), 1);
        Checks.due("append(126)", x.append(126), 2);
        Checks.dueThrow(x, "append(32)", () -> x.append(32), Checks.ARGUMENT);
        Checks.dueThrow(x, "append(127)", () -> x.append(127), Checks.ARGUMENT);
        Checks.dueThrow(x, "append(-1)", () -> x.append(-1), Checks.ARGUMENT);
        for (int i = 3; i <= 60; i++) {
            Checks.due("append", x.append('1'), i);
        }
        Checks.dueThrow(x, "append behind 60", () -> x.append('1'), Checks.STATE);
        Checks.dueThrow(x, "append(32) behind 60", () -> x.append(32), Checks.ARGUMENT);
        Checks.due("append does not save", x.count(8), 0);
    }

    private static void clearBuffer() {
        BreakerTrials x = new BreakerTrials();
        Checks.due("clearBuffer", x.clearBuffer(), 0);
        Checks.type(x, "1,x");
        Checks.due("clearBuffer", x.clearBuffer(), 3);
        Checks.due("clearBuffer", x.clearBuffer(), 0);
        Checks.due("append", x.append('7'), 1);
        Checks.due("clearBuffer does not save", x.count(8), 0);
    }

    private static void dueError(String text, int want) {
        BreakerTrials x = new BreakerTrials();
        Checks.type(x, text);
        Checks.due("firstError of \"" + text + "\"", x.firstError(), want);
        boolean complete = want == text.length() && !text.isEmpty() && !text.endsWith(",");
        if (!complete) {
            Checks.dueThrow(x, "delays of \"" + text + "\"", () -> x.delays(0), Checks.ARGUMENT);
        } else {
            String[] numbers = text.split(",");
            Checks.due("delays", x.delays(0), 1);
            for (int i = 0; i < numbers.length; i++) {
                Checks.due("delay", x.delay(0, i), Integer.parseInt(numbers[i]));
            }
            Checks.due("delay", x.delay(0, numbers.length), -1);
        }
    }

    private static void firstError() {
        String twenty = "10,11,12,13,14,15,16,17,18,19,20,21,22,23,24,25,26,27,28,99";
        dueError("", 0);
        dueError("0", 1);
        dueError("9", 1);
        dueError("99", 2);
        dueError("00", 1);
        dueError("05", 1);
        dueError("100", 2);
        dueError("990", 2);
        dueError("5,", 2);
        dueError("5,,", 2);
        dueError(",5", 0);
        dueError("5,0,07", 5);
        dueError("5,0,7/", 5);
        dueError("5:", 1);
        dueError("-1", 0);
        dueError("1,2x,y", 3);
        dueError(twenty, 59);
        dueError(twenty + ",", 59);
        dueError(twenty + "0", 59);
        dueError("0,0,0,0,0,0,0,0,0,0,0,0,0,0,0,0,0,0,0,", 38);
        dueError("0,0,0,0,0,0,0,0,0,0,0,0,0,0,0,0,0,0,0,0,0", 39);
    }

    private static void delays() {
        BreakerTrials x = Checks.withRow(0, "1,2,3");
        x.call(0);
        Checks.type(x, "8,9");
        Checks.due("delays", x.delays(0), 3);
        Checks.due("the buffer is cleared", x.clearBuffer(), 0);
        Checks.due("from the first one on", x.store(0, 10), 8);
        Checks.due("delay", x.delay(0, 2), -1);
        Checks.due("a call on its way keeps its delay", x.onWay(0, 2), 1);
        Checks.due("delays saves", x.count(8), 3);
        Checks.type(x, "4");
        x.undo();
        Checks.due("undone", x.delay(0, 2), 3);
        Checks.due("undone", x.store(0, 10), 2);
        Checks.due("undo leaves the buffer", x.clearBuffer(), 1);
        Checks.dueThrow(x, "delays of nothing", () -> x.delays(0), Checks.ARGUMENT);
        Checks.dueThrow(x, "delays(4) of nothing", () -> x.delays(4), Checks.INDEX);
        Checks.type(x, "7");
        Checks.dueThrow(x, "delays(4)", () -> x.delays(4), Checks.INDEX);
        Checks.dueThrow(x, "delays(-1)", () -> x.delays(-1), Checks.INDEX);
        Checks.type(x, ",");
        Checks.dueThrow(x, "delays of 7,", () -> x.delays(1), Checks.ARGUMENT);
    }

    private static void undo() {
        BreakerTrials x = Checks.withRow(0, "0,7");
        long[] digests = new long[9];
        for (int i = 0; i < 8; i++) {
            digests[i] = x.digest();
            if (i < 4) {
                x.call(0);
            } else {
                x.pass(i);
            }
        }
        Checks.due("at most 6 are saved", x.count(8), 6);
        for (int left = 5; left >= 0; left--) {
            Checks.due("undo", x.undo(), left);
            Checks.due("saved states", x.count(8), left);
        }
        Checks.due("the oldest two are dropped", x.count(2), 2);
        Checks.dueThrow(x, "undo of none", x::undo, Checks.STATE);
        BreakerTrials y = Checks.withRow(0, "0,7");
        for (int i = 0; i < 5; i++) {
            long before = y.digest();
            y.callOften(0, 3, 4);
            y.undo();
            Checks.due("digest behind undo", y.digest(), before);
            y.callHealthiest();
        }
        Checks.due("undo is not undoable", y.count(8), 6);
        BreakerTrials z = new BreakerTrials();
        z.close(2);
        z.set(0, 20);
        Checks.due("saved though nothing changed", z.count(8), 2);
        z.call(1);
        z.undo();
        Checks.due("calls on their way undone", z.onWay(0, 0), -1);
    }

    /** A state with a trial, cuts, slow calls and other settings comes back whole. */
    private static void undoOfAll() {
        BreakerTrials x = Checks.withRow(0, "0,0,9,9,0,7");
        x.set(1, 2);
        x.set(3, 4);
        x.callOften(0, 6, 4);
        x.undo();
        for (int kind = 0; kind < 8; kind++) {
            long before = x.digest();
            changeAll(x, kind);
            Checks.due("another digest behind kind " + kind, x.digest() == before ? 1 : 0, 0);
            x.undo();
            Checks.due("digest behind undo of kind " + kind, x.digest(), before);
            Checks.due("undo brings back count 8", x.count(8), 3);
        }
        x.callOften(0, 3, 4);
        x.undo();
        x.callOften(0, 3, 3);
        long before = x.digest();
        for (int kind = 0; kind < 8; kind++) {
            changeAll(x, kind);
            x.undo();
            Checks.due("digest behind undo of kind " + kind, x.digest(), before);
        }
    }

    private static void changeAll(BreakerTrials x, int kind) {
        switch (kind) {
            case 0: x.call(0); break;
            case 1: x.callOften(0, 20, 3); break;
            case 2: x.callHealthiest(); break;
            case 3: x.close(0); break;
            case 4: x.set(4, 7); break;
            case 5: x.pass(5); break;
            case 6: x.set(0, 8); break;
            default: x.callOften(0, 50, 7); break;
        }
    }

    private static void store() {
        BreakerTrials x = Checks.withRow(3, "1,30,0");
        x.callOften(3, 5, 1);
        Checks.dueStore("store", x, 3, 0, 3, 1, 0, 0, 5, 0, 1, 2, 0, 0);
        Checks.dueStore("another store", x, 2, 0, 0, 0, 0, 0, 0, 0, 0, 0, 0, 5);
        Checks.dueThrow(x, "store(4, 0)", () -> x.store(4, 0), Checks.INDEX);
        Checks.dueThrow(x, "store(-1, 11)", () -> x.store(-1, 11), Checks.INDEX);
        Checks.dueThrow(x, "store(0, 11)", () -> x.store(0, 11), Checks.ARGUMENT);
        Checks.dueThrow(x, "store(0, -1)", () -> x.store(0, -1), Checks.ARGUMENT);
    }

    private static void delay() {
        BreakerTrials x = Checks.withRow(2, "4,5,6");
        Checks.due("delay", x.delay(2, 0) * 100 + x.delay(2, 1) * 10 + x.delay(2, 2), 456);
        Checks.due("delay(2, 3)", x.delay(2, 3), -1);
        Checks.due("delay(2, 20)", x.delay(2, 20), -1);
        Checks.due("delay(2, MAX)", x.delay(2, Integer.MAX_VALUE), -1);
        Checks.dueThrow(x, "delay(4, -1)", () -> x.delay(4, -1), Checks.INDEX);
        Checks.dueThrow(x, "delay(-1, 0)", () -> x.delay(-1, 0), Checks.INDEX);
        Checks.dueThrow(x, "delay(0, -1)", () -> x.delay(0, -1), Checks.ARGUMENT);
    }

    private static void onWay() {
        BreakerTrials x = Checks.withRow(1, "0,0,0,0,17");
        x.callOften(1, 4, 0);
        x.call(2);
        x.pass(4);
        x.pass(6);
        x.call(3);
        Checks.due("trial", x.call(1), 2);
        x.pass(1);
        int[] want = {3, 4, 5, 0, 1, 16, 17, 1};
        for (int i = 0; i < 8; i++) {
            Checks.due("onWay(" + i / 4 + ", " + i % 4 + ")", x.onWay(i / 4, i % 4), want[i]);
        }
        Checks.due("onWay(2, 0)", x.onWay(2, 0), -1);
        Checks.due("onWay(16, 0)", x.onWay(16, 0), -1);
        Checks.due("onWay(MAX, 3)", x.onWay(Integer.MAX_VALUE, 3), -1);
        Checks.due("onWay(15, 0)", Checks.full().onWay(15, 0), 1);
        Checks.due("onWay(16, 0)", Checks.full().onWay(16, 0), -1);
        Checks.dueThrow(x, "onWay(-1, 0)", () -> x.onWay(-1, 0), Checks.ARGUMENT);
        Checks.dueThrow(x, "onWay(0, -1)", () -> x.onWay(0, -1), Checks.ARGUMENT);
        Checks.dueThrow(x, "onWay(9, 4)", () -> x.onWay(9, 4), Checks.ARGUMENT);
    }

    private static void count() {
        BreakerTrials x = Checks.withRow(1, "0,0,1,0");
        x.callOften(1, 5, 1);
        x.call(1);
        x.call(0);
        x.callOften(1, 2, 4);
        Checks.dueCounts("count", x, 13, 0, 5, 4, 3, 2, 3, 0, 5);
        x.call(1);
        Checks.dueCounts("count behind a trial", x, 13, 0, 6, 4, 4, 2, 3, 1, 6);
        Checks.dueThrow(x, "count(9)", () -> x.count(9), Checks.ARGUMENT);
        Checks.dueThrow(x, "count(-1)", () -> x.count(-1), Checks.ARGUMENT);
    }

    private static void setting() {
        BreakerTrials x = new BreakerTrials();
        x.set(4, 123);
        Checks.due("setting", x.setting(4), 123);
        Checks.due("setting", x.setting(3), 10);
        Checks.dueThrow(x, "setting(5)", () -> x.setting(5), Checks.INDEX);
        Checks.dueThrow(x, "setting(-1)", () -> x.setting(-1), Checks.INDEX);
    }

    private static void ifCalled() {
        BreakerTrials x = Checks.withRow(0, "0");
        Checks.row(x, 1, "30");
        x.call(1);
        long before = x.digest();
        Checks.due("would be let through", x.ifCalled(0, 8, 5, 0), 5);
        Checks.due("would be refused", x.ifCalled(0, 8, 5, 1), 3);
        Checks.due("bad outcomes of all stores", x.ifCalled(0, 8, 5, 2), 6);
        Checks.due("the breaker then", x.ifCalled(0, 8, 5, 3), 1);
        Checks.due("nothing is changed", x.digest(), before);
        x.callOften(0, 8, 5);
        Checks.due("bad outcomes that would come alone", x.ifCalled(0, 1, 0, 2), 0);
        Checks.due("would be refused", x.ifCalled(0, 1, 0, 1), 1);
        BreakerTrials y = Checks.full();
        Checks.due("no room", y.ifCalled(0, 5, 0, 0), 0);
        Checks.due("no room is no refusal", y.ifCalled(0, 5, 0, 1), 0);
        Checks.dueThrow(x, "ifCalled(4, 0, 0, 9)", () -> x.ifCalled(4, 0, 0, 9), Checks.INDEX);
        Checks.dueThrow(x, "ifCalled(-1, 1, 0, 0)", () -> x.ifCalled(-1, 1, 0, 0), Checks.INDEX);
        Checks.dueThrow(x, "ifCalled(0, 0, 0, 0)", () -> x.ifCalled(0, 0, 0, 0), Checks.ARGUMENT);
        Checks.dueThrow(x, "ifCalled(0, 51, 0, 0)", () -> x.ifCalled(0, 51, 0, 0), Checks.ARGUMENT);
        Checks.dueThrow(x, "ifCalled(0, 1, -1, 0)", () -> x.ifCalled(0, 1, -1, 0), Checks.ARGUMENT);
        Checks.dueThrow(x, "ifCalled(0, 1, 51, 0)", () -> x.ifCalled(0, 1, 51, 0), Checks.ARGUMENT);
        Checks.dueThrow(x, "ifCalled(0, 1, 0, 4)", () -> x.ifCalled(0, 1, 0, 4), Checks.ARGUMENT);
        Checks.dueThrow(x, "ifCalled(0, 1, 0, -1)", () -> x.ifCalled(0, 1, 0, -1), Checks.ARGUMENT);
    }

    private static void freeIn() {
        BreakerTrials x = Checks.withRow(0, "0,0,0,0,8,30");
        Checks.due("closed", x.freeIn(0), 0);
        x.callOften(0, 4, 0);
        Checks.due("cuts off", x.freeIn(0), 10);
        x.pass(3);
        Checks.due("cuts off", x.freeIn(0), 7);
        x.pass(7);
        Checks.due("tries", x.freeIn(0), 0);
        x.call(0);
        Checks.due("good trial on its way", x.freeIn(0), 8);
        x.set(0, 7);
        Checks.due("bad trial on its way", x.freeIn(0), 8 + 20 - 1);
        x.set(4, 5);
        Checks.due("at most setting 4", x.freeIn(0), 8 + 5 - 1);
        x.set(4, 1);
        Checks.due("for one tick", x.freeIn(0), 8);
        Checks.due("room does not matter", Checks.full().freeIn(0), 0);
        Checks.dueThrow(x, "freeIn(4)", () -> x.freeIn(4), Checks.INDEX);
        Checks.dueThrow(x, "freeIn(-1)", () -> x.freeIn(-1), Checks.INDEX);
        BreakerTrials y = Checks.withRow(1, "0");
        y.set(3, 99);
        y.set(4, 999);
        y.callOften(1, 4, 0);
        for (int i = 0; i < 4; i++) {
            y.pass(Math.min(200, y.freeIn(1)));
            while (y.freeIn(1) > 0) {
                y.pass(Math.min(200, y.freeIn(1)));
            }
            if (i < 3) {
                Checks.due("trial", y.call(1), 2);
            }
        }
        Checks.due("the last time", y.store(1, 4), 792);
        Checks.row(y, 1, "1,2");
        y.set(0, 1);
        Checks.due("trial of delay 1", y.call(1), 2);
        Checks.due("good", y.freeIn(1), 1);
        y.undo();
        Checks.row(y, 1, "2");
        y.call(1);
        Checks.due("behind 1000", y.freeIn(1), -1);
        y.pass(1);
        Checks.due("behind 999", y.freeIn(1), 999);
    }

    private static void healthiest() {
        BreakerTrials x = new BreakerTrials();
        Checks.due("the lowest", x.healthiest(), 0);
        x.call(0);
        Checks.due("the fewest on their way", x.healthiest(), 1);
        Checks.row(x, 1, "0,50");
        Checks.row(x, 2, "0,0");
        x.call(1);
        x.call(2);
        x.call(3);
        x.call(3);
        Checks.due("the fewest bad before the fewest on their way", x.healthiest(), 0);
        x.call(0);
        Checks.due("the lowest of equal ones", x.healthiest(), 0);
        x.call(0);
        Checks.due("fewest on their way", x.healthiest(), 3);
        x.set(1, 2);
        Checks.row(x, 3, "0,0");
        x.callOften(3, 2, 0);
        Checks.row(x, 0, "0");
        x.callOften(0, 2, 0);
        Checks.due("closed ones alone", x.store(0, 0) * 10 + x.store(3, 0), 11);
        Checks.due("closed ones alone", x.healthiest(), 1);
        x.call(1);
        Checks.due("fewest on their way", x.healthiest(), 2);
        x.call(2);
        x.pass(5);
        Checks.due("closed one that is left", x.healthiest(), 1);
        x.close(0);
        Checks.due("an empty window", x.healthiest(), 0);
    }

    private static void health() {
        BreakerTrials x = Checks.withRow(0, "0,1,1");
        Checks.dueShare("health without any", x.health(), 1.0);
        x.call(0);
        Checks.dueShare("none good", x.health(), 0.0);
        x.callOften(0, 1, 1);
        Checks.dueShare("half", x.health(), 0.5);
        x.callOften(0, 1, 1);
        Checks.dueShare("two of three", x.health(), 2.0 / 3.0);
        BreakerTrials y = new BreakerTrials();
        y.call(0);
        Checks.dueShare("on its way is no outcome", y.health(), 1.0);
        y.pass(5);
        Checks.dueShare("all good", y.health(), 1.0);
    }

    /** The list of promise 22, from the answers of the other calls. */
    private static long digestOf(BreakerTrials x, String buffer) {
        long hash = 3037;
        for (int what = 0; what <= 8; what++) {
            hash = 31 * hash + x.count(what);
        }
        for (int setting = 0; setting < 5; setting++) {
            hash = 31 * hash + x.setting(setting);
        }
        for (int store = 0; store < 4; store++) {
            for (int what = 0; what <= 10; what++) {
                hash = 31 * hash + x.store(store, what);
            }
            for (int place = 0; x.delay(store, place) != -1; place++) {
                hash = 31 * hash + x.delay(store, place);
            }
            hash = 31 * hash + x.freeIn(store);
            for (int what = 0; what <= 3; what++) {
                hash = 31 * hash + x.ifCalled(store, 6, 3, what);
            }
        }
        for (int place = 0; x.onWay(place, 0) != -1; place++) {
            for (int what = 0; what <= 3; what++) {
                hash = 31 * hash + x.onWay(place, what);
            }
        }
        hash = 31 * hash + x.healthiest();
        hash = 31 * hash + Double.doubleToLongBits(x.health());
        hash = 31 * hash + buffer.length();
        for (int i = 0; i < buffer.length(); i++) {
            hash = 31 * hash + buffer.charAt(i);
        }
        return hash;
    }

    private static void digest() {
        BreakerTrials x = new BreakerTrials();
        Checks.due("digest", x.digest(), digestOf(x, ""));
        Checks.row(x, 0, "0,6,1,0,2,40");
        Checks.row(x, 2, "0");
        Checks.type(x, "5,~");
        Checks.due("digest", x.digest(), digestOf(x, "5,~"));
        for (int i = 0; i < 3; i++) {
            x.callOften(i == 0 ? 2 : 0, 1 + i, i);
            Checks.due("digest", x.digest(), digestOf(x, "5,~"));
        }
        for (int calls = 1; calls < 300; calls++) {
            BreakerTrials y = manyCalls(calls);
            Checks.due("digest behind " + calls + " calls", y.digest(), digestOf(y, ""));
        }
    }

    /** An object is used for 512 calls alone, and digestOf makes over 100 of them. */
    private static BreakerTrials manyCalls(int calls) {
        BreakerTrials x = Checks.withRow(0, "0,6,1,0,2,40");
        Checks.row(x, 2, "0");
        for (int i = 0; i < calls; i++) {
            x.callOften(i % 3 == 0 ? 2 : 0, 1 + i % 5, i % 4);
        }
        return x;
    }

    public static void main(String[] args) {
        newObject();
        call();
        callWithoutRoom();
        slowness();
        windowOfTheLast();
        windowSettings();
        outcomesThatDoNotCount();
        timesThatDouble();
        callOften();
        callOftenRefusedWithoutRoom();
        callHealthiest();
        callHealthiestWithoutRoomOrClosed();
        close();
        set();
        pass();
        orderInATick();
        append();
        clearBuffer();
        firstError();
        delays();
        undo();
        undoOfAll();
        store();
        delay();
        onWay();
        count();
        setting();
        ifCalled();
        freeIn();
        healthiest();
        health();
        digest();
        Checks.end("all promises hold");
    }
}
