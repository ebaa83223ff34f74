import java.util.Arrays;

/** What the tests share: answers that are counted if they are wrong, and states that many tests begin with. */
final class Checks {
    static final String INDEX = "IndexOutOfBoundsException";
    static final String ARGUMENT = "IllegalArgumentException";
    static final String STATE = "IllegalStateException";

    private static int wrong;

    interface Call {
        void make();
    }

    private Checks() {
    }

    static int wrongSoFar() {
        return wrong;
    }

    static void tellWrong(String what) {
        wrong++;
        System.out.println(what);
    }

    static void due(String call, long got, long want) {
        if (got != want) {
            tellWrong(call + " answered " + got + ", due is " + want);
        }
    }

    static void dueShare(String call, double got, double want) {
        if (Double.doubleToLongBits(got) != Double.doubleToLongBits(want)) {
            tellWrong(call + " answered " + got + ", due is " + want);
        }
    }

    /** The call throws that exception itself, none below it, and changes nothing. */
    static void dueThrow(BreakerTrials x, String call, Call made, String want) {
        long before = x.digest();
        String got = "nothing";
        try {
            made.make();
        } catch (RuntimeException e) {
            got = e.getClass().getSimpleName();
        }
        if (!got.equals(want)) {
            tellWrong(call + " threw " + got + ", due is " + want);
        }
        due(call + " changes nothing: digest", x.digest(), before);
    }

    /** The numbers 0 to 10 of a store. */
    static void dueStore(String place, BreakerTrials x, int store, int... want) {
        int[] got = new int[11];
        for (int what = 0; what < got.length; what++) {
            got[what] = x.store(store, what);
        }
        if (!Arrays.equals(got, want)) {
            tellWrong(place + ": store " + store + " is " + Arrays.toString(got) + ", due is " + Arrays.toString(want));
        }
    }

    static void dueCounts(String place, BreakerTrials x, int... want) {
        int[] got = new int[9];
        for (int what = 0; what < got.length; what++) {
            got[what] = x.count(what);
        }
        if (!Arrays.equals(got, want)) {
            tellWrong(place + ": counts are " + Arrays.toString(got) + ", due is " + Arrays.toString(want));
        }
    }

    static void type(BreakerTrials x, String text) {
        for (int i = 0; i < text.length(); i++) {
            x.append(text.charAt(i));
        }
    }

    static void row(BreakerTrials x, int store, String text) {
        type(x, text);
        x.delays(store);
    }

    static BreakerTrials withRow(int store, String text) {
        BreakerTrials x = new BreakerTrials();
        row(x, store, text);
        return x;
    }

    /** 16 calls of store 1 are on their way, for 99 ticks. */
    static BreakerTrials full() {
        return fill(new BreakerTrials());
    }

    /** As many calls of store 1 more as there is room for, for 99 ticks. */
    static BreakerTrials fill(BreakerTrials x) {
        row(x, 1, "99");
        x.callOften(1, 16, 0);
        return x;
    }

    /** Store 0 cuts off, by four calls that failed at once, for 10 ticks; the row then begins anew. */
    static BreakerTrials cutOff(String row) {
        BreakerTrials x = withRow(0, "0");
        x.callOften(0, 4, 0);
        row(x, 0, row);
        return x;
    }

    /** Store 0 tries, and has that row from the first delay on. */
    static BreakerTrials trying(String row) {
        BreakerTrials x = cutOff(row);
        x.pass(10);
        return x;
    }

    /** Outcomes of a store one by one: b fails at once, g is good behind a tick. */
    static void bring(BreakerTrials x, int store, String outcomes) {
        row(x, store, String.join(",", outcomes.replace('b', '0').replace('g', '1').split("")));
        for (int i = 0; i < outcomes.length(); i++) {
            x.call(store);
            if (outcomes.charAt(i) == 'g') {
                x.pass(1);
            }
        }
    }

    /** More ticks than one pass() takes. */
    static void passLong(BreakerTrials x, int ticks) {
        for (int left = ticks; left > 0; left -= 200) {
            x.pass(Math.min(200, left));
        }
    }

    static void end(String well) {
        System.out.println(wrong == 0 ? well : wrong + " answers are not as due");
        if (wrong != 0) {
            System.exit(1);
        }
    }
}
