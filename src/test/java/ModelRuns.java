import java.util.ArrayDeque;
import java.util.ArrayList;
import java.util.Arrays;
import java.util.List;
import java.util.Random;
import java.util.TreeMap;
import java.util.regex.Pattern;

/** Random runs (of fixed seeds) against a second, plain writing of ../shared/DOC.md; also odd arguments. */
public final class ModelRuns {
    private static final int RUNS = 1500;
    private static final int CALLS = 512;
    private static final long THROWS = Long.MIN_VALUE;
    private static final long INDEX = THROWS + 1;
    private static final long ARGUMENT = THROWS + 2;
    private static final long STATE = THROWS + 3;

    /** How often something rare was met: a run that never meets it tests nothing of it. */
    private static final TreeMap<String, Integer> met = new TreeMap<>();

    private static void meet(String what) {
        met.merge(what, 1, Integer::sum);
    }

    private static final class Sent {
        int store;
        int delay;
        int left;
        boolean trial;
        Object closing;
    }

    private static final class Shop {
        List<Integer> row = new ArrayList<>(List.of(5));
        int position;
        String breaker = "closed";
        int left;
        int last;
        Object closing = new Object();
        ArrayDeque<Boolean> bads = new ArrayDeque<>();
        int through;
        int refused;
        int bad;
        int cuts;

        Shop copy() {
            Shop c = new Shop();
            c.row = new ArrayList<>(row);
            c.position = position;
            c.breaker = breaker;
            c.left = left;
            c.last = last;
            c.closing = closing;
            c.bads = new ArrayDeque<>(bads);
            c.through = through;
            c.refused = refused;
            c.bad = bad;
            c.cuts = cuts;
            return c;
        }

        void close() {
            breaker = "closed";
            left = 0;
            last = 0;
            closing = new Object();
            bads.clear();
        }

        void cut(int ticks) {
            breaker = "cuts off";
            left = ticks;
            last = ticks;
            cuts++;
        }
    }

    private static final class World {
        final Shop[] shops = new Shop[4];
        List<Sent> sent = new ArrayList<>();
        int[] settings = {20, 4, 2, 10, 80};
        int ticks;
        int good;
        int trials;

        World() {
            Arrays.setAll(shops, i -> new Shop());
        }

        World copy() {
            World c = new World();
            Arrays.setAll(c.shops, i -> shops[i].copy());
            for (Sent s : sent) {
                Sent t = new Sent();
                t.store = s.store;
                t.delay = s.delay;
                t.left = s.left;
                t.trial = s.trial;
                t.closing = s.closing;
                c.sent.add(t);
            }
            c.settings = settings.clone();
            c.ticks = ticks;
            c.good = good;
            c.trials = trials;
            return c;
        }

        boolean wouldPass(int store) {
            Shop shop = shops[store];
            boolean tried = sent.stream().anyMatch(s -> s.store == store && s.trial);
            return shop.breaker.equals("closed") || shop.breaker.equals("tries") && !tried;
        }

        int call(int store) {
            Shop shop = shops[store];
            if (!wouldPass(store)) {
                shop.refused++;
                return 0;
            }
            Sent s = new Sent();
            s.store = store;
            s.trial = !shop.breaker.equals("closed");
            s.delay = shop.row.get(shop.position);
            s.left = s.delay;
            s.closing = shop.closing;
            shop.position = (shop.position + 1) % shop.row.size();
            shop.through++;
            if (s.trial) {
                trials++;
            }
            if (s.delay == 0) {
                outcome(s);
            } else {
                sent.add(s);
            }
            return s.trial ? 2 : 1;
        }

        void outcome(Sent s) {
            Shop shop = shops[s.store];
            boolean bad = s.delay == 0 || s.delay > settings[0];
            if (bad) {
                shop.bad++;
            } else {
                good++;
            }
            if (s.trial) {
                meet(bad ? "bad trial" : "good trial");
                if (bad) {
                    shop.cut(Math.min(shop.last * 2, settings[4]));
                } else {
                    shop.close();
                }
            } else if (!shop.breaker.equals("closed")) {
                meet("outcome when not closed");
            } else if (s.closing != shop.closing) {
                meet("outcome of before the closing");
            } else {
                shop.bads.addLast(bad);
                if (shop.bads.size() > 16) {
                    shop.bads.removeFirst();
                }
                if (window(store(s)).size() == settings[1] && badOnes(store(s)) >= settings[2]) {
                    meet("cut off");
                    shop.cut(settings[3]);
                }
            }
        }

        int store(Sent s) {
            return s.store;
        }

        List<Boolean> window(int store) {
            if (!shops[store].breaker.equals("closed")) {
                return List.of();
            }
            List<Boolean> all = new ArrayList<>(shops[store].bads);
            return all.subList(Math.max(0, all.size() - settings[1]), all.size());
        }

        int badOnes(int store) {
            return (int) window(store).stream().filter(b -> b).count();
        }

        int onWayOf(int store) {
            return (int) sent.stream().filter(s -> s.store == store).count();
        }

        int tick() {
            for (Sent s : sent) {
                s.left--;
            }
            int answered = 0;
            for (Sent s : new ArrayList<>(sent)) {
                if (s.left == 0) {
                    sent.remove(s);
                    answered++;
                    outcome(s);
                }
            }
            for (Shop shop : shops) {
                if (shop.breaker.equals("cuts off")) {
                    shop.left--;
                    if (shop.left == 0) {
                        shop.breaker = "tries";
                    }
                }
            }
            ticks++;
            return answered;
        }

        int callOften(int store, int times, int ticks) {
            int through = 0;
            for (int i = 0; i < times; i++) {
                if (wouldPass(store) && sent.size() == 16) {
                    meet("ends without room");
                    break;
                }
                through += call(store) > 0 ? 1 : 0;
                for (int t = 0; t < ticks; t++) {
                    tick();
                }
            }
            return through;
        }

        int healthiest() {
            int best = -1;
            for (int i = 3; i >= 0; i--) {
                if (shops[i].breaker.equals("closed") && (best < 0 || rank(i) <= rank(best))) {
                    best = i;
                }
            }
            return best;
        }

        int rank(int store) {
            return badOnes(store) * 100 + onWayOf(store);
        }

        int sum(int what) {
            int sum = 0;
            for (int i = 0; i < 4; i++) {
                sum += number(i, what);
            }
            return sum;
        }

        int number(int store, int what) {
            Shop shop = shops[store];
            int breaker = List.of("closed", "cuts off", "tries").indexOf(shop.breaker);
            int[] all = {breaker, window(store).size(), badOnes(store), breaker == 1 ? shop.left : 0, shop.last,
                shop.through, shop.refused, shop.bad, onWayOf(store), shop.cuts, shop.row.get(shop.position)};
            return all[what];
        }

        int freeIn(int store) {
            World w = copy();
            for (int t = 0; t <= 999; t++) {
                if (w.wouldPass(store)) {
                    return t;
                }
                w.tick();
            }
            meet("not free behind 999");
            return -1;
        }

        int ifCalled(int store, int times, int ticks, int what) {
            World w = copy();
            int through = w.callOften(store, times, ticks);
            int[] all = {through, w.shops[store].refused - shops[store].refused, w.sum(7) - sum(7), w.number(store, 0)};
            return all[what];
        }

        double health() {
            int all = good + sum(7);
            return all == 0 ? 1.0 : (double) good / all;
        }
    }

    /** The object of the document once more; what throws answers one of THROWS'. */
    private static final class Model {
        static final Pattern BEGINNING = Pattern.compile("((0|[1-9][0-9]?),){0,19}(0|[1-9][0-9]?)?");
        static final Pattern WHOLE = Pattern.compile("((0|[1-9][0-9]?),){0,19}(0|[1-9][0-9]?)");
        World w = new World();
        final ArrayDeque<World> saved = new ArrayDeque<>();
        String buffer = "";

        void save() {
            saved.addLast(w.copy());
            if (saved.size() > 6) {
                saved.removeFirst();
            }
        }

        static boolean in(int value, int least, int most) {
            return value >= least && value <= most;
        }

        long answer(int method, int a, int b, int c, int d) {
            boolean store = in(a, 0, 3);
            switch (method) {
                case 0:
                    if (!store) {
                        return INDEX;
                    }
                    if (w.wouldPass(a) && w.sent.size() == 16) {
                        meet("call without room");
                        return STATE;
                    }
                    save();
                    return w.call(a);
                case 1:
                    if (!store || !in(b, 1, 50) || !in(c, 0, 50)) {
                        return store ? ARGUMENT : INDEX;
                    }
                    save();
                    return w.callOften(a, b, c);
                case 2:
                    return callHealthiest();
                case 3:
                    return store ? close(a) : INDEX;
                case 4:
                    return set(a, b);
                case 5:
                    return in(a, 1, 200) ? pass(a) : ARGUMENT;
                case 6:
                    return append(a);
                case 7:
                    int length = buffer.length();
                    buffer = "";
                    return length;
                case 8:
                    return firstError();
                case 9:
                    return store ? delays(a) : INDEX;
                case 10:
                    if (saved.isEmpty()) {
                        return STATE;
                    }
                    w = saved.removeLast();
                    return saved.size();
                case 11:
                    return !store ? INDEX : in(b, 0, 10) ? w.number(a, b) : ARGUMENT;
                case 12:
                    return !store ? INDEX : b < 0 ? ARGUMENT
                            : b < w.shops[a].row.size() ? w.shops[a].row.get(b) : -1;
                case 13:
                    return a < 0 || !in(b, 0, 3) ? ARGUMENT : a < w.sent.size() ? onWay(a)[b] : -1;
                case 14:
                    return in(a, 0, 8) ? counts()[a] : ARGUMENT;
                case 15:
                    return in(a, 0, 4) ? w.settings[a] : INDEX;
                case 16:
                    return !store ? INDEX : in(b, 1, 50) && in(c, 0, 50) && in(d, 0, 3)
                            ? w.ifCalled(a, b, c, d) : ARGUMENT;
                case 17:
                    return store ? w.freeIn(a) : INDEX;
                case 18:
                    return w.healthiest();
                case 19:
                    return Double.doubleToLongBits(w.health());
                default:
                    return digest();
            }
        }

        long callHealthiest() {
            if (w.sent.size() == 16) {
                return STATE;
            }
            save();
            int store = w.healthiest();
            if (store < 0) {
                meet("no healthiest");
            } else {
                w.call(store);
            }
            return store;
        }

        long close(int store) {
            save();
            int was = w.number(store, 0);
            for (Sent s : w.sent) {
                if (s.store == store && s.trial) {
                    meet("trial closed by hand");
                    s.trial = false;
                }
            }
            w.shops[store].close();
            return was;
        }

        long set(int setting, int value) {
            if (!in(setting, 0, 4)) {
                return INDEX;
            }
            int least = setting == 1 ? 2 : 1;
            int most = setting == 0 || setting == 3 ? 99 : setting == 4 ? 999 : 16;
            if (!in(value, least, most)) {
                return ARGUMENT;
            }
            save();
            int was = w.settings[setting];
            w.settings[setting] = value;
            return was;
        }

        long pass(int ticks) {
            save();
            int answered = 0;
            for (int i = 0; i < ticks; i++) {
                answered += w.tick();
            }
            return answered;
        }

        long append(int code) {
            if (!in(code, 33, 126)) {
                return ARGUMENT;
            }
            if (buffer.length() == 60) {
                meet("full buffer");
                return STATE;
            }
            buffer += (char) code;
            return buffer.length();
        }

        int firstError() {
            for (int i = 0; i < buffer.length(); i++) {
                if (!BEGINNING.matcher(buffer.substring(0, i + 1)).matches()) {
                    return i;
                }
            }
            return buffer.length();
        }

        long delays(int store) {
            if (!WHOLE.matcher(buffer).matches()) {
                return ARGUMENT;
            }
            save();
            Shop shop = w.shops[store];
            int had = shop.row.size();
            shop.row = new ArrayList<>();
            for (String number : buffer.split(",")) {
                shop.row.add(Integer.parseInt(number));
            }
            shop.position = 0;
            buffer = "";
            return had;
        }

        int[] onWay(int place) {
            Sent s = w.sent.get(place);
            return new int[] {s.store, s.left, s.delay, s.trial ? 1 : 0};
        }

        int[] counts() {
            int closed = 0;
            for (int i = 0; i < 4; i++) {
                closed += w.number(i, 0) == 0 ? 1 : 0;
            }
            return new int[] {w.ticks, w.sent.size(), w.sum(5), w.sum(6), w.sum(7), w.good, closed, w.trials,
                saved.size()};
        }

        long digest() {
            List<Long> all = new ArrayList<>();
            for (int count : counts()) {
                all.add((long) count);
            }
            for (int setting : w.settings) {
                all.add((long) setting);
            }
            for (int store = 0; store < 4; store++) {
                for (int what = 0; what <= 10; what++) {
                    all.add((long) w.number(store, what));
                }
                for (int delay : w.shops[store].row) {
                    all.add((long) delay);
                }
                all.add((long) w.freeIn(store));
                for (int what = 0; what <= 3; what++) {
                    all.add((long) w.ifCalled(store, 6, 3, what));
                }
            }
            for (int place = 0; place < w.sent.size(); place++) {
                for (int number : onWay(place)) {
                    all.add((long) number);
                }
            }
            all.add((long) w.healthiest());
            all.add(Double.doubleToLongBits(w.health()));
            all.add((long) buffer.length());
            buffer.chars().forEach(code -> all.add((long) code));
            long hash = 3037;
            for (long v : all) {
                hash = 31 * hash + v;
            }
            return hash;
        }
    }

    private static final String[] NAMES = {"call", "callOften", "callHealthiest", "close", "set", "pass", "append",
        "clearBuffer", "firstError", "delays", "undo", "store", "delay", "onWay", "count", "setting", "ifCalled",
        "freeIn", "healthiest", "health", "digest"};

    private static long asked(BreakerTrials x, int method, int a, int b, int c, int d) {
        try {
            switch (method) {
                case 0: return x.call(a);
                case 1: return x.callOften(a, b, c);
                case 2: return x.callHealthiest();
                case 3: return x.close(a);
                case 4: return x.set(a, b);
                case 5: return x.pass(a);
                case 6: return x.append(a);
                case 7: return x.clearBuffer();
                case 8: return x.firstError();
                case 9: return x.delays(a);
                case 10: return x.undo();
                case 11: return x.store(a, b);
                case 12: return x.delay(a, b);
                case 13: return x.onWay(a, b);
                case 14: return x.count(a);
                case 15: return x.setting(a);
                case 16: return x.ifCalled(a, b, c, d);
                case 17: return x.freeIn(a);
                case 18: return x.healthiest();
                case 19: return Double.doubleToLongBits(x.health());
                default: return x.digest();
            }
        } catch (RuntimeException e) {
            return e.getClass() == IndexOutOfBoundsException.class ? INDEX
                    : e.getClass() == IllegalArgumentException.class ? ARGUMENT
                    : e.getClass() == IllegalStateException.class ? STATE : THROWS;
        }
    }

    /** One run: its own mood of arguments, the same calls to both. */
    private static final class Run {
        final Random random;
        final BreakerTrials x = new BreakerTrials();
        final Model model = new Model();
        final StringBuilder told = new StringBuilder();
        final int stores;
        final int longest;
        final boolean fails;
        boolean wrong;
        int calls;

        Run(long seed) {
            random = new Random(seed);
            stores = 1 + random.nextInt(4);
            longest = new int[] {4, 12, 40, 100}[random.nextInt(4)];
            fails = random.nextInt(3) > 0;
        }

        void make(int method, int a, int b, int c, int d) {
            if (wrong || calls >= CALLS) {
                return;
            }
            calls++;
            long want = model.answer(method, a, b, c, d);
            long got = asked(x, method, a, b, c, d);
            told.append(NAMES[method]).append(' ').append(a).append(' ').append(b).append(' ').append(c).append(' ')
                    .append(d).append(" -> ").append(got).append('\n');
            if (got != want) {
                wrong = true;
                told.append("due is ").append(want).append('\n');
            }
        }

        int odd(int ordinary) {
            int[] all = {-1, 0, 4, 5, 9, 10, 11, 16, 17, 50, 51, 60, 99, 100, 200, 201, 999, 1000, 32, 127,
                Integer.MAX_VALUE, Integer.MIN_VALUE};
            return random.nextInt(40) == 0 ? all[random.nextInt(all.length)] : ordinary;
        }

        int store() {
            return odd(random.nextInt(stores));
        }

        void type() {
            int count = random.nextInt(5) == 0 ? 15 + random.nextInt(7) : 1 + random.nextInt(6);
            for (int i = 0; i < count; i++) {
                if (i > 0) {
                    make(6, ',', 0, 0, 0);
                }
                int delay = fails && random.nextInt(3) == 0 ? 0 : random.nextInt(longest);
                for (char code : Integer.toString(delay).toCharArray()) {
                    make(6, random.nextInt(150) == 0 ? odd(33 + random.nextInt(94)) : code, 0, 0, 0);
                }
            }
            make(8, 0, 0, 0, 0);
            make(9, store(), 0, 0, 0);
            if (random.nextInt(3) > 0) {
                make(7, 0, 0, 0, 0);
            }
        }

        void change() {
            int setting = random.nextInt(5);
            int[] most = {longest < 99 ? longest : 99, 16, 8, random.nextInt(3) == 0 ? 99 : 12, 999};
            make(4, odd(setting), odd(1 + random.nextInt(most[setting])), 0, 0);
        }

        void step() {
            int kind = random.nextInt(100);
            if (kind < 22) {
                make(0, store(), 0, 0, 0);
            } else if (kind < 34) {
                make(1, store(), odd(1 + random.nextInt(random.nextInt(6) == 0 ? 50 : 9)), odd(random.nextInt(5)), 0);
            } else if (kind < 37) {
                make(2, 0, 0, 0, 0);
            } else if (kind < 40) {
                make(3, store(), 0, 0, 0);
            } else if (kind < 45) {
                change();
            } else if (kind < 58) {
                make(5, odd(1 + random.nextInt(random.nextInt(5) == 0 ? 200 : 12)), 0, 0, 0);
            } else if (kind < 61) {
                type();
            } else if (kind < 65) {
                make(10, 0, 0, 0, 0);
            } else if (kind < 66) {
                make(7 + random.nextInt(2), 0, 0, 0, 0);
            } else if (kind < 73) {
                make(11, store(), odd(random.nextInt(11)), 0, 0);
            } else if (kind < 76) {
                make(13, odd(random.nextInt(17)), odd(random.nextInt(4)), 0, 0);
            } else if (kind < 82) {
                make(12 + 2 * random.nextInt(2), odd(random.nextInt(4)), odd(random.nextInt(21)), 0, 0);
            } else if (kind < 84) {
                make(14 + random.nextInt(2), odd(random.nextInt(9)), 0, 0, 0);
            } else if (kind < 88) {
                make(16, store(), odd(1 + random.nextInt(50)), odd(random.nextInt(8)), odd(random.nextInt(4)));
            } else if (kind < 92) {
                make(17, store(), 0, 0, 0);
            } else {
                make(18 + random.nextInt(3), 0, 0, 0, 0);
            }
        }

        /** Waits until a store lets a call through, and calls it: what doubles the times. */
        void waitAndCall() {
            int store = random.nextInt(stores);
            for (int i = 0; i < 6 && model.w.freeIn(store) != 0; i++) {
                make(5, Math.max(1, Math.min(200, model.w.freeIn(store))), 0, 0, 0);
            }
            make(0, store, 0, 0, 0);
            make(17, store, 0, 0, 0);
            make(5, 1 + random.nextInt(5), 0, 0, 0);
            make(17, store, 0, 0, 0);
        }

        void startWithLongCuts() {
            int[] values = {1, 2, 1, 99, 999};
            for (int setting = 0; setting < 5; setting++) {
                make(4, setting, values[setting], 0, 0);
            }
        }

        boolean holds() {
            boolean longCuts = random.nextInt(8) == 0;
            if (longCuts) {
                startWithLongCuts();
            }
            while (longCuts && !wrong && calls < CALLS / 2) {
                waitAndCall();
            }
            while (!wrong && calls < CALLS - 1) {
                step();
            }
            make(20, 0, 0, 0, 0);
            return !wrong;
        }
    }

    public static void main(String[] args) {
        for (int seed = 0; seed < RUNS; seed++) {
            Run run = new Run(seed);
            if (!run.holds()) {
                System.out.println("run of seed " + seed + ", all its calls:\n" + run.told);
                System.exit(1);
            }
        }
        System.out.println("model and class agree; met " + met);
        String[] rare = {"bad trial", "good trial", "outcome when not closed", "outcome of before the closing",
            "cut off", "ends without room", "not free behind 999", "call without room", "no healthiest",
            "trial closed by hand", "full buffer"};
        for (String what : rare) {
            if (!met.containsKey(what)) {
                System.out.println("the runs never met: " + what);
                System.exit(1);
            }
        }
    }
}
