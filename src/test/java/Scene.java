/** Names and short ways to speak for the tests that are written by hand. */
abstract class Scene {
    static final int ENTER = 0;
    static final int LEAVE = 1;
    static final int WAIT = 2;
    static final int WAIT_WITH_TIME = 3;
    static final int NOTIFY = 4;
    static final int NOTIFY_ALL = 5;
    static final int INTERRUPT = 6;
    static final int PARK = 7;
    static final int UNPARK = 8;
    static final int JOIN = 9;
    static final int SLEEP = 10;
    static final int MARK = 11;
    static final int ASK = 12;

    static final int RUNNING = 0;
    static final int IN_SET = 1;
    static final int RETURNING = 2;
    static final int PARKED = 3;
    static final int ENDED = 4;
    static final int INTERRUPTED = 8;
    static final int PERMIT = 16;

    static final int MISUSE = 0;
    static final int BROKEN_OFF = 1;
    static final int NOTIFIED = 2;
    static final int TIMED_OUT = 3;
    static final int YES = 4;
    static final int NO = 5;

    static final int REFUSED = -1;
    static final int FULL = -2;
    static final int STRICT = 0;
    static final int LOOSE = 1;

    final Check check = new Check();
    MonitorWays x;

    /** A program: actions with their operands in turn. */
    static int[] does(int... actionsAndOperands) {
        return actionsAndOperands;
    }

    /** A new object whose threads have these programs. */
    void make(int kind, int[]... programs) {
        x = new MonitorWays(kind);
        for (int t = 0; t < programs.length; t++) {
            for (int i = 0; i < programs[t].length; i += 2) {
                check.due("act of thread " + t, x.act(t, programs[t][i], programs[t][i + 1]), i / 2 + 1);
            }
        }
    }

    /** These threads, one after the other, by way 0. */
    void step(int... threads) {
        for (int t : threads) {
            choose(t, 0, 1);
        }
    }

    void choose(int t, int way, int want) {
        check.due("choose(" + t + ", " + way + ")", x.choose(t, way), want);
    }

    /** The ways by which the thread may go are just these. */
    void allows(int t, int... ways) {
        for (int way = 0; way < 4; way++) {
            boolean want = false;
            for (int allowed : ways) {
                want |= allowed == way;
            }
            check.due("allowed(" + t + ", " + way + ")", x.allowed(t, way), want);
        }
    }

    void state(int t, int want) {
        check.due("state(" + t + ")", x.state(t), want);
    }

    /** The thread's letters are just these. */
    void letters(int t, int... want) {
        for (int k = 0; k < want.length; k++) {
            check.due("letter(" + t + ", " + k + ")", x.letter(t, k), want[k]);
        }
        check.due("letter(" + t + ", " + want.length + ")", x.letter(t, want.length), REFUSED);
    }

    void monitor(int m, int owner, int held) {
        check.due("owner(" + m + ")", x.owner(m), owner);
        check.due("held(" + m + ")", x.held(m), held);
    }

    /** The threads in the monitor's set are just these. */
    void set(int m, int... want) {
        for (int k = 0; k < want.length; k++) {
            check.due("inSet(" + m + ", " + k + ")", x.inSet(m, k), want[k]);
        }
        check.due("inSet(" + m + ", " + want.length + ")", x.inSet(m, want.length), REFUSED);
    }

    void counts(int states, int finals, int allEnded, int most) {
        check.due("count(1)", x.count(1), states);
        check.due("count(2)", x.count(2), finals);
        check.due("count(3)", x.count(3), allEnded);
        check.due("count(4)", x.count(4), most);
    }

    /** The outcomes found are just these. */
    void outcomes(long... want) {
        for (int k = 0; k < want.length; k++) {
            check.due("outcome(" + k + ")", x.outcome(k), want[k]);
        }
        check.due("outcome(" + want.length + ")", x.outcome(want.length), MonitorWays.NONE);
    }

    void blocks(boolean... want) {
        for (int t = 0; t < want.length; t++) {
            check.due("mayBlock(" + t + ")", x.mayBlock(t), want[t]);
        }
    }

    static long outcome(long n0, long n1, long n2, long n3) {
        return ((n0 * 48611L + n1) * 48611L + n2) * 48611L + n3;
    }

    /** A thread's part of an outcome: its digits in base 12 with a 1 before them. */
    static long part(int... digits) {
        long number = 1;
        for (int digit : digits) {
            number = number * 12 + digit;
        }
        return number;
    }
}
