import java.util.Arrays;

/** Stores behind breakers that cut a slow one off; ../shared/DOC.md holds the promises. */
public final class BreakerTrials {
    public static final int NONE = -1;

    private static final int STORES = 4;
    private static final int MOST_DELAYS = 20;
    private static final int FIRST_DELAY = 5;
    private static final int MOST_ON_WAY = 16;
    private static final int MOST_OUTCOMES = 16;
    private static final int MOST_SAVED = 6;
    private static final int MOST_TIMES = 50;
    private static final int MOST_TICKS_BEHIND = 50;
    private static final int MOST_TICKS = 200;
    private static final int MOST_FREE_IN = 999;

    private static final int CLOSED = 0;
    private static final int CUTS_OFF = 1;
    private static final int TRIES = 2;

    private static final int REFUSED = 0;
    private static final int LET_THROUGH = 1;
    private static final int AS_TRIAL = 2;

    private static final int SLOWEST_GOOD = 0;
    private static final int WINDOW = 1;
    private static final int TOO_MANY_BAD = 2;
    private static final int FIRST_CUT = 3;
    private static final int LONGEST_CUT = 4;
    private static final int SETTINGS = 5;
    private static final int[] AT_FIRST = {20, 4, 2, 10, 80};
    private static final int[] LEAST = {1, 2, 1, 1, 1};
    private static final int[] MOST = {99, 16, 16, 99, 999};

    // What is known of a call on its way; the first four are those of onWay().
    private static final int OF_STORE = 0;
    private static final int TO_GO = 1;
    private static final int ITS_DELAY = 2;
    private static final int IS_TRIAL = 3;
    private static final int OF_CLOSING = 4;
    private static final int CALL_FACTS = 5;
    private static final int CALL_LOOKS = 4;

    private static final int STORE_LOOKS = 11;
    private static final int COUNTS = 9;
    private static final int FORECASTS = 4;

    private static final long DIGEST_START = 3037L;
    private static final int DIGEST_TIMES = 6;
    private static final int DIGEST_TICKS = 3;
    private static final int DOUBLE_BIAS = 1023;
    private static final int DOUBLE_FRACTION_BITS = 52;

    private final State now = new State();
    private final State forecast = new State();
    private final State[] saved = new State[MOST_SAVED];
    private int oldestSaved;
    private int savedCount;
    private final DelayText buffer = new DelayText();

    public BreakerTrials() {
        for (int i = 0; i < MOST_SAVED; i++) {
            saved[i] = new State();
        }
    }

    // ---- calls

    public int call(int store) throws IndexOutOfBoundsException, IllegalStateException {
        requireStore(store);
        if (now.blocks(store)) {
            throw new IllegalStateException("16 calls are on their way");
        }
        save();
        return now.ring(store);
    }

    public int callOften(int store, int times, int ticks)
            throws IndexOutOfBoundsException, IllegalArgumentException {
        requireStore(store);
        requireRange(times, 1, MOST_TIMES);
        requireRange(ticks, 0, MOST_TICKS_BEHIND);
        save();
        return now.ringOften(store, times, ticks);
    }

    public int callHealthiest() throws IllegalStateException {
        if (now.isFull()) {
            throw new IllegalStateException("16 calls are on their way");
        }
        save();
        int store = now.healthiestStore();
        if (store != NONE) {
            now.ring(store);
        }
        return store;
    }

    public int close(int store) throws IndexOutOfBoundsException {
        requireStore(store);
        save();
        return now.closeByHand(store);
    }

    public int set(int setting, int value) throws IndexOutOfBoundsException, IllegalArgumentException {
        requireSetting(setting);
        requireRange(value, LEAST[setting], MOST[setting]);
        save();
        int previous = now.settings[setting];
        now.settings[setting] = value;
        return previous;
    }

    public int pass(int ticks) throws IllegalArgumentException {
        requireRange(ticks, 1, MOST_TICKS);
        save();
        return now.letPass(ticks);
    }

    // ---- texts

    public int append(int code) throws IllegalArgumentException, IllegalStateException {
        requireRange(code, 33, 126);
        if (buffer.isFull()) {
            throw new IllegalStateException("the buffer has 60 characters");
        }
        return buffer.add(code);
    }

    public int clearBuffer() {
        return buffer.empty();
    }

    public int firstError() {
        return buffer.firstWrong();
    }

    public int delays(int store) throws IndexOutOfBoundsException, IllegalArgumentException {
        requireStore(store);
        if (!buffer.isComplete()) {
            throw new IllegalArgumentException("the buffer is not complete delays as a text");
        }
        save();
        int previous = now.stores[store].takeRow(buffer);
        buffer.empty();
        return previous;
    }

    public int undo() throws IllegalStateException {
        if (savedCount <= 0) {
            throw new IllegalStateException("there is no saved state");
        }
        savedCount--;
        now.copyFrom(saved[(oldestSaved + savedCount) % MOST_SAVED]);
        return savedCount;
    }

    // ---- looks; nothing is changed

    public int store(int store, int what) throws IndexOutOfBoundsException, IllegalArgumentException {
        requireStore(store);
        requireRange(what, 0, STORE_LOOKS - 1);
        return now.numberOf(store, what);
    }

    public int delay(int store, int place) throws IndexOutOfBoundsException, IllegalArgumentException {
        requireStore(store);
        requireNotNegative(place);
        Store asked = now.stores[store];
        return place < asked.rowLength ? asked.row[place] : NONE;
    }

    public int onWay(int place, int what) throws IllegalArgumentException {
        requireNotNegative(place);
        requireRange(what, 0, CALL_LOOKS - 1);
        return place < now.callCount ? now.calls[what][place] : NONE;
    }

    public int count(int what) throws IllegalArgumentException {
        requireRange(what, 0, COUNTS - 1);
        return counted(what);
    }

    public int setting(int setting) throws IndexOutOfBoundsException {
        requireSetting(setting);
        return now.settings[setting];
    }

    // ---- what would be; nothing is changed

    public int ifCalled(int store, int times, int ticks, int what)
            throws IndexOutOfBoundsException, IllegalArgumentException {
        requireStore(store);
        requireRange(times, 1, MOST_TIMES);
        requireRange(ticks, 0, MOST_TICKS_BEHIND);
        requireRange(what, 0, FORECASTS - 1);
        foresee(store, times, ticks);
        return foreseen(store, what);
    }

    public int freeIn(int store) throws IndexOutOfBoundsException {
        requireStore(store);
        return now.ticksTillFree(store);
    }

    public int healthiest() {
        return now.healthiestStore();
    }

    public double health() {
        return now.goodShare();
    }

    public long digest() {
        long hash = DIGEST_START;
        for (int what = 0; what < COUNTS; what++) {
            hash = mix(hash, counted(what));
        }
        for (int setting = 0; setting < SETTINGS; setting++) {
            hash = mix(hash, now.settings[setting]);
        }
        for (int store = 0; store < STORES; store++) {
            // One forecast answers all four questions that mixStore asks.
            foresee(store, DIGEST_TIMES, DIGEST_TICKS);
            hash = mixStore(hash, store);
        }
        for (int place = 0; place < now.callCount; place++) {
            for (int what = 0; what < CALL_LOOKS; what++) {
                hash = mix(hash, now.calls[what][place]);
            }
        }
        hash = mix(hash, now.healthiestStore());
        hash = mix(hash, bitsOfShare(now.goodShare()));
        hash = mix(hash, buffer.length);
        for (int i = 0; i < buffer.length; i++) {
            hash = mix(hash, buffer.codes[i]);
        }
        return hash;
    }

    private long mixStore(long start, int store) {
        long hash = start;
        for (int what = 0; what < STORE_LOOKS; what++) {
            hash = mix(hash, now.numberOf(store, what));
        }
        Store mixed = now.stores[store];
        for (int place = 0; place < mixed.rowLength; place++) {
            hash = mix(hash, mixed.row[place]);
        }
        hash = mix(hash, now.ticksTillFree(store));
        for (int what = 0; what < FORECASTS; what++) {
            hash = mix(hash, foreseen(store, what));
        }
        return hash;
    }

    private static long mix(long hash, long value) {
        return 31L * hash + value;
    }

    // LANGUAGE.md leaves no Double.doubleToLongBits; a share is 0 or a normal double of at most 1,
    // so doubling it into 1 to 2 and taking 1 away loses no bit.
    private static long bitsOfShare(double share) {
        if (share <= 0.0) {
            return 0L;
        }
        double scaled = share;
        long exponent = DOUBLE_BIAS;
        for (int i = 0; i < DOUBLE_BIAS && scaled < 1.0; i++) {
            scaled = scaled * 2.0;
            exponent--;
        }
        double fraction = (scaled - 1.0) * (double) (1L << DOUBLE_FRACTION_BITS);
        return (exponent << DOUBLE_FRACTION_BITS) + (long) fraction;
    }

    private int counted(int what) {
        switch (what) {
            case 0: return now.ticksGone;
            case 1: return now.callCount;
            case 2: return now.sumOf(5);
            case 3: return now.sumOf(6);
            case 4: return now.sumOf(7);
            case 5: return now.goodOutcomes;
            case 6: return now.closedBreakers();
            case 7: return now.trials;
            default: return savedCount;
        }
    }

    private void foresee(int store, int times, int ticks) {
        forecast.copyFrom(now);
        forecast.ringOften(store, times, ticks);
    }

    private int foreseen(int store, int what) {
        Store before = now.stores[store];
        Store then = forecast.stores[store];
        switch (what) {
            case 0: return then.letThrough - before.letThrough;
            case 1: return then.refused - before.refused;
            case 2: return forecast.sumOf(7) - now.sumOf(7);
            default: return then.breaker;
        }
    }

    private void save() {
        if (savedCount >= MOST_SAVED) {
            oldestSaved = (oldestSaved + 1) % MOST_SAVED;
            savedCount = MOST_SAVED - 1;
        }
        saved[(oldestSaved + savedCount) % MOST_SAVED].copyFrom(now);
        savedCount++;
    }

    private static void requireStore(int store) {
        if (store < 0 || store >= STORES) {
            throw new IndexOutOfBoundsException("there is no such store");
        }
    }

    private static void requireSetting(int setting) {
        if (setting < 0 || setting >= SETTINGS) {
            throw new IndexOutOfBoundsException("there is no such setting");
        }
    }

    private static void requireRange(int value, int least, int most) {
        if (value < least || value > most) {
            throw new IllegalArgumentException("out of range");
        }
    }

    private static void requireNotNegative(int place) {
        if (place < 0) {
            throw new IllegalArgumentException("place is below 0");
        }
    }

    /** A store with its row of delays and its breaker. */
    private static final class Store {
        final int[] row = new int[MOST_DELAYS];
        int rowLength = 1;
        int next;
        int breaker = CLOSED;
        int ticksLeft;
        int lastCut;
        // A call counts for the window of the closing under which it was let through alone.
        int closings;
        // One bit an outcome, 1 for a bad one, the latest the lowest, 0 where none is known:
        // so the window can shrink and grow without a move.
        int outcomes;
        int knownOutcomes;
        int letThrough;
        int refused;
        int badOutcomes;
        int callsOnWay;
        int cuts;

        Store() {
            row[0] = FIRST_DELAY;
        }

        void copyFrom(Store other) {
            System.arraycopy(other.row, 0, row, 0, MOST_DELAYS);
            rowLength = other.rowLength;
            next = other.next;
            breaker = other.breaker;
            ticksLeft = other.ticksLeft;
            lastCut = other.lastCut;
            closings = other.closings;
            outcomes = other.outcomes;
            knownOutcomes = other.knownOutcomes;
            letThrough = other.letThrough;
            refused = other.refused;
            badOutcomes = other.badOutcomes;
            callsOnWay = other.callsOnWay;
            cuts = other.cuts;
        }

        int takeRow(DelayText text) {
            int previous = rowLength;
            rowLength = text.readInto(row);
            next = 0;
            return previous;
        }

        int takeDelay() {
            int place = nextPlace();
            next = place + 1;
            return row[place];
        }

        int nextPlace() {
            return next < rowLength ? next : 0;
        }

        int windowSize(int window) {
            return breaker == CLOSED ? Math.min(knownOutcomes, window) : 0;
        }

        int badInWindow(int window) {
            return breaker == CLOSED ? Integer.bitCount(outcomes & ((1 << window) - 1)) : 0;
        }

        void noteOutcome(boolean bad) {
            outcomes = ((outcomes << 1) | (bad ? 1 : 0)) & ((1 << MOST_OUTCOMES) - 1);
            knownOutcomes = Math.min(knownOutcomes + 1, MOST_OUTCOMES);
        }

        void shut() {
            breaker = CLOSED;
            ticksLeft = 0;
            lastCut = 0;
            closings++;
            outcomes = 0;
            knownOutcomes = 0;
        }

        void cutOff(int ticks) {
            breaker = CUTS_OFF;
            ticksLeft = ticks;
            lastCut = ticks;
            cuts++;
        }

        void waitATick() {
            if (breaker != CUTS_OFF) {
                return;
            }
            ticksLeft--;
            if (ticksLeft <= 0) {
                breaker = TRIES;
            }
        }
    }

    /** All that undo brings back. */
    private static final class State {
        final Store[] stores = new Store[STORES];
        final int[] settings = new int[SETTINGS];
        // By fact, then by place, in the order in which the calls were let through.
        final int[][] calls = new int[CALL_FACTS][MOST_ON_WAY];
        int callCount;
        int ticksGone;
        int goodOutcomes;
        int trials;

        State() {
            for (int i = 0; i < STORES; i++) {
                stores[i] = new Store();
            }
            System.arraycopy(AT_FIRST, 0, settings, 0, SETTINGS);
        }

        void copyFrom(State other) {
            for (int i = 0; i < STORES; i++) {
                stores[i].copyFrom(other.stores[i]);
            }
            System.arraycopy(other.settings, 0, settings, 0, SETTINGS);
            for (int fact = 0; fact < CALL_FACTS; fact++) {
                System.arraycopy(other.calls[fact], 0, calls[fact], 0, MOST_ON_WAY);
            }
            callCount = other.callCount;
            ticksGone = other.ticksGone;
            goodOutcomes = other.goodOutcomes;
            trials = other.trials;
        }

        boolean isFull() {
            return callCount >= MOST_ON_WAY;
        }

        boolean blocks(int store) {
            return isFull() && answerFor(store) != REFUSED;
        }

        int answerFor(int store) {
            int breaker = stores[store].breaker;
            if (breaker == CLOSED) {
                return LET_THROUGH;
            }
            return breaker == TRIES && trialOf(store) == NONE ? AS_TRIAL : REFUSED;
        }

        int trialOf(int store) {
            for (int place = 0; place < callCount; place++) {
                if (calls[OF_STORE][place] == store && calls[IS_TRIAL][place] == 1) {
                    return place;
                }
            }
            return NONE;
        }

        int ring(int store) {
            Store called = stores[store];
            int answer = answerFor(store);
            if (answer == REFUSED) {
                called.refused++;
                return answer;
            }
            called.letThrough++;
            int trial = answer == AS_TRIAL ? 1 : 0;
            trials += trial;
            int delay = called.takeDelay();
            if (delay == 0) {
                settle(called, delay, trial, called.closings);
            } else {
                sendOff(store, delay, trial);
            }
            return answer;
        }

        void sendOff(int store, int delay, int trial) {
            if (isFull()) {
                return;
            }
            calls[OF_STORE][callCount] = store;
            calls[TO_GO][callCount] = delay;
            calls[ITS_DELAY][callCount] = delay;
            calls[IS_TRIAL][callCount] = trial;
            calls[OF_CLOSING][callCount] = stores[store].closings;
            callCount++;
            stores[store].callsOnWay++;
        }

        int ringOften(int store, int times, int ticks) {
            int through = 0;
            for (int i = 0; i < times && !blocks(store); i++) {
                if (ring(store) != REFUSED) {
                    through++;
                }
                for (int gone = 0; gone < ticks; gone++) {
                    tick();
                }
            }
            return through;
        }

        int letPass(int ticks) {
            int answered = 0;
            for (int i = 0; i < ticks; i++) {
                answered += tick();
            }
            return answered;
        }

        int tick() {
            int before = callCount;
            int kept = 0;
            for (int place = 0; place < before; place++) {
                calls[TO_GO][place]--;
                if (calls[TO_GO][place] > 0) {
                    if (kept < place) {
                        moveCall(place, kept);
                    }
                    kept++;
                } else {
                    Store answering = stores[calls[OF_STORE][place]];
                    answering.callsOnWay--;
                    settle(answering, calls[ITS_DELAY][place], calls[IS_TRIAL][place], calls[OF_CLOSING][place]);
                }
            }
            callCount = kept;
            for (int i = 0; i < STORES; i++) {
                stores[i].waitATick();
            }
            ticksGone++;
            return before - kept;
        }

        void moveCall(int from, int to) {
            for (int fact = 0; fact < CALL_FACTS; fact++) {
                calls[fact][to] = calls[fact][from];
            }
        }

        void settle(Store store, int delay, int trial, int closing) {
            boolean bad = isBad(delay);
            if (bad) {
                store.badOutcomes++;
            } else {
                goodOutcomes++;
            }
            if (trial == 1) {
                settleTrial(store, bad);
            } else if (store.breaker == CLOSED && store.closings == closing) {
                settleInWindow(store, bad);
            }
        }

        boolean isBad(int delay) {
            return delay == 0 || delay > settings[SLOWEST_GOOD];
        }

        void settleTrial(Store store, boolean bad) {
            if (bad) {
                store.cutOff(nextCut(store));
            } else {
                store.shut();
            }
        }

        int nextCut(Store store) {
            return Math.min(2 * store.lastCut, settings[LONGEST_CUT]);
        }

        void settleInWindow(Store store, boolean bad) {
            store.noteOutcome(bad);
            int window = settings[WINDOW];
            if (store.knownOutcomes >= window && store.badInWindow(window) >= settings[TOO_MANY_BAD]) {
                store.cutOff(settings[FIRST_CUT]);
            }
        }

        int closeByHand(int store) {
            int previous = stores[store].breaker;
            int trial = trialOf(store);
            if (trial != NONE) {
                calls[IS_TRIAL][trial] = 0;
            }
            stores[store].shut();
            return previous;
        }

        int ticksTillFree(int store) {
            Store asked = stores[store];
            int trial = trialOf(store);
            int ticks = asked.ticksLeft;
            if (trial != NONE) {
                ticks = calls[TO_GO][trial];
                if (isBad(calls[ITS_DELAY][trial])) {
                    // The tick that brings the bad outcome is the first one of the new cut.
                    ticks += nextCut(asked) - 1;
                }
            }
            return ticks <= MOST_FREE_IN ? ticks : NONE;
        }

        int healthiestStore() {
            int best = NONE;
            for (int i = 0; i < STORES; i++) {
                if (stores[i].breaker == CLOSED && (best == NONE || isHealthier(stores[i], stores[best]))) {
                    best = i;
                }
            }
            return best;
        }

        boolean isHealthier(Store one, Store other) {
            int ofOne = one.badInWindow(settings[WINDOW]);
            int ofOther = other.badInWindow(settings[WINDOW]);
            return ofOne < ofOther || (ofOne == ofOther && one.callsOnWay < other.callsOnWay);
        }

        int closedBreakers() {
            int closed = 0;
            for (int i = 0; i < STORES; i++) {
                if (stores[i].breaker == CLOSED) {
                    closed++;
                }
            }
            return closed;
        }

        int numberOf(int store, int what) {
            Store asked = stores[store];
            switch (what) {
                case 0: return asked.breaker;
                case 1: return asked.windowSize(settings[WINDOW]);
                case 2: return asked.badInWindow(settings[WINDOW]);
                case 3: return asked.ticksLeft;
                case 4: return asked.lastCut;
                case 5: return asked.letThrough;
                case 6: return asked.refused;
                case 7: return asked.badOutcomes;
                case 8: return asked.callsOnWay;
                case 9: return asked.cuts;
                default: return asked.row[asked.nextPlace()];
            }
        }

        int sumOf(int what) {
            int sum = 0;
            for (int i = 0; i < STORES; i++) {
                sum += numberOf(i, what);
            }
            return sum;
        }

        double goodShare() {
            int all = goodOutcomes + sumOf(7);
            return all > 0 ? (double) goodOutcomes / (double) all : 1.0;
        }
    }

    /** The buffer, read as delays. */
    private static final class DelayText {
        private static final int ROOM = 60;

        final int[] codes = new int[ROOM];
        int length;

        boolean isFull() {
            return length >= ROOM;
        }

        int add(int code) {
            if (!isFull()) {
                codes[length] = code;
                length++;
            }
            return length;
        }

        int empty() {
            int previous = length;
            length = 0;
            return previous;
        }

        int firstWrong() {
            int numbers = 1;
            int number = NONE;
            for (int i = 0; i < length; i++) {
                if (isDigit(codes[i])) {
                    if (number == 0 || number > 9) {
                        return i;
                    }
                    number = codes[i] - '0' + (number == NONE ? 0 : 10 * number);
                } else if (codes[i] == ',' && number != NONE && numbers < MOST_DELAYS) {
                    numbers++;
                    number = NONE;
                } else {
                    return i;
                }
            }
            return length;
        }

        boolean isComplete() {
            return length > 0 && codes[length - 1] != ',' && firstWrong() == length;
        }

        int readInto(int[] row) {
            Arrays.fill(row, 0);
            int place = 0;
            for (int i = 0; i < length && place < row.length; i++) {
                if (codes[i] == ',') {
                    place++;
                } else {
                    row[place] = 10 * row[place] + (codes[i] - '0');
                }
            }
            return Math.min(place + 1, row.length);
        }

        private static boolean isDigit(int code) {
            return code >= '0' && code <= '9';
        }
    }
}
