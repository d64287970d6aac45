/** The sentences of promises 1 to 10 that name an edge, each with a test of its own. */
public final class CallEdgesTest extends Scene {
    private static final int LEAST = Integer.MIN_VALUE;
    private static final int MOST = Integer.MAX_VALUE;
    // Numbers that no thread and no way has; the last ones would be 0 to 3 if only their low bits were looked at.
    private static final int[] NOT_0_TO_3 = {-1, 4, 5, -4, LEAST, MOST, 256, 65536, LEAST + 1, 1 << 30};
    private static final int[] NOT_0_TO_1 = {-1, 2, 3, -2, LEAST, MOST, 256, 65536, LEAST + 1, 1 << 30};

    public static void main(String[] args) {
        CallEdgesTest test = new CallEdgesTest();
        test.kindOne();
        test.kindAnyOther();
        test.emptyPrograms();
        test.actTellsHowMany();
        test.actThreadOutOfRange();
        test.actActionOutOfRange();
        test.actMonitorOutOfRange();
        test.actThreadOperandOutOfRange();
        test.actMarkOutOfRange();
        test.actAnyInt();
        test.actFull();
        test.actFullChangesNothing();
        test.actRefusedBeforeFull();
        test.actBeginsAnew();
        test.actWhatWasFoundIsGone();
        test.chooseMakesOne();
        test.chooseNotAllowed();
        test.chooseOutOfRange();
        test.allowedAsChoose();
        test.allowedOutOfRange();
        test.allowedChangesNothing();
        test.resetToFirstState();
        test.resetTellsHowMany();
        test.stateNumbers();
        test.stateOutOfRange();
        test.letterEdges();
        test.letterOutOfRange();
        test.ownerNone();
        test.ownerOutOfRange();
        test.heldNone();
        test.heldOutOfRange();
        test.inSetEdges();
        test.inSetOutOfRange();
        test.last512thCall();
        test.check.end();
    }

    private void kindOne() {
        check.about("kind 1: the machine is LOOSE");
        make(1, does(PARK, 0), does(ENTER, 0, WAIT, 0));
        step(0, 1, 1);
        choose(0, 3, 1);
        choose(1, 2, 1);
        state(0, ENDED);
        state(1, RETURNING);
    }

    private void kindAnyOther() {
        for (int kind : new int[] {0, 2, 3, -1, LEAST, MOST, 257, 65537, LEAST + 1}) {
            check.about("kind " + kind + ", any other: it is not");
            make(kind, does(PARK, 0), does(ENTER, 0, WAIT, 0));
            step(0, 1, 1);
            allows(0);
            allows(1);
            choose(0, 3, 0);
            choose(1, 2, 0);
        }
    }

    private void emptyPrograms() {
        for (int kind = 0; kind <= 1; kind++) {
            check.about("Empty PROGRAMS, kind " + kind);
            make(kind);
            for (int t = 0; t < 4; t++) {
                state(t, ENDED);
                allows(t);
                letters(t);
            }
            monitor(0, REFUSED, 0);
            monitor(1, REFUSED, 0);
            set(0);
            set(1);
            check.due("reset()", x.reset(), 0);
            for (int t = 0; t < 4; t++) {
                check.due("the first act of " + t, x.act(t, MARK, 0), 1);
            }
        }
    }

    private void actTellsHowMany() {
        check.about("Adds an action to thread t's PROGRAM: how many it has");
        make(STRICT);
        for (int i = 1; i <= 6; i++) {
            check.due("act " + i + " of thread 3", x.act(3, MARK, 0), i);
            check.due("act " + i + " of thread 0", x.act(0, MARK, 1), i);
        }
        state(1, ENDED);
        check.due("the first of thread 1", x.act(1, MARK, 2), 1);
        step(0, 3, 1);
        letters(0, 9);
        letters(1, 10);
        letters(3, 8);
    }

    private void actThreadOutOfRange() {
        check.about("act: t out of 0 .. 3");
        make(STRICT);
        for (int t : NOT_0_TO_3) {
            check.due("act(" + t + ", 11, 0)", x.act(t, MARK, 0), REFUSED);
        }
        allEnded();
    }

    private void actActionOutOfRange() {
        check.about("act: action out of 0 .. 12");
        make(STRICT);
        for (int action : new int[] {-1, 13, 14, LEAST, MOST, 256, 65536 + 11, LEAST + 11}) {
            for (int a = 0; a <= 1; a++) {
                check.due("act(0, " + action + ", " + a + ")", x.act(0, action, a), REFUSED);
            }
        }
        allEnded();
        check.due("action 0", x.act(0, 0, 0), 1);
        check.due("action 12", x.act(0, 12, 0), 2);
    }

    private void actMonitorOutOfRange() {
        check.about("act: its operand (0 .. 1 for 0 to 5) out of range");
        for (int action = ENTER; action <= NOTIFY_ALL; action++) {
            make(STRICT);
            for (int a : NOT_0_TO_1) {
                check.due("act(0, " + action + ", " + a + ")", x.act(0, action, a), REFUSED);
            }
            allEnded();
            check.due("act(0, " + action + ", 0)", x.act(0, action, 0), 1);
            check.due("act(0, " + action + ", 1)", x.act(0, action, 1), 2);
        }
    }

    private void actThreadOperandOutOfRange() {
        check.about("act: its operand (0 .. 3 for 6, 8, 9) out of range");
        for (int action : new int[] {INTERRUPT, UNPARK, JOIN}) {
            make(STRICT);
            for (int a : NOT_0_TO_3) {
                check.due("act(0, " + action + ", " + a + ")", x.act(0, action, a), REFUSED);
            }
            allEnded();
            for (int a = 0; a <= 3; a++) {
                check.due("act(0, " + action + ", " + a + ")", x.act(0, action, a), a + 1);
            }
        }
    }

    private void actMarkOutOfRange() {
        check.about("act: its operand (0 .. 3 for 11) out of range");
        make(STRICT);
        for (int a : NOT_0_TO_3) {
            check.due("act(2, 11, " + a + ")", x.act(2, MARK, a), REFUSED);
        }
        allEnded();
        for (int a = 0; a <= 3; a++) {
            check.due("act(2, 11, " + a + ")", x.act(2, MARK, a), a + 1);
        }
    }

    private void actAnyInt() {
        check.about("act: any int else");
        for (int a : new int[] {-1, 0, 4, 13, LEAST, MOST}) {
            make(STRICT, does(SLEEP, a, ASK, a, INTERRUPT, 0, ASK, a, PARK, a), does(UNPARK, 0));
            step(0, 0, 0, 0, 0);
            letters(0, NO, YES);
            state(0, PARKED);
            step(1);
            state(0, ENDED);
            check.due("explore()", x.explore(), 1);
            outcomes(outcome(part(NO, YES, 6), 18, 18, 18));
        }
    }

    private void actFull() {
        check.about("act: 6 there: FULL");
        for (int t = 0; t < 4; t++) {
            make(STRICT);
            for (int i = 1; i <= 6; i++) {
                check.due("act " + i, x.act(t, MARK, 0), i);
            }
            for (int action = 0; action <= 12; action++) {
                check.due("act(" + t + ", " + action + ", 0)", x.act(t, action, 0), FULL);
            }
            check.due("act of another", x.act(3 - t, MARK, 0), 1);
            step(t, t, t, t, t, t);
            state(t, ENDED);
            letters(t, 8, 8, 8, 8, 8, 8);
        }
    }

    private void actFullChangesNothing() {
        check.about("act: FULL begins nothing anew");
        make(STRICT, does(MARK, 0, MARK, 0, MARK, 0, MARK, 0, MARK, 0, JOIN, 0));
        step(0, 0);
        check.due("explore()", x.explore(), 1);
        check.due("the seventh", x.act(0, MARK, 0), FULL);
        letters(0, 8, 8);
        check.due("count(0)", x.count(0), 2);
        counts(6, 1, 0, 1);
        blocks(true, false, false, false);
        check.due("reset()", x.reset(), 2);
    }

    private void actRefusedBeforeFull() {
        check.about("act: out of range and 6 there");
        make(STRICT, does(MARK, 0, MARK, 0, MARK, 0, MARK, 0, MARK, 0, MARK, 0));
        check.due("a wrong action", x.act(0, 13, 0), REFUSED);
        check.due("a wrong monitor", x.act(0, ENTER, 2), REFUSED);
        check.due("a wrong thread", x.act(0, JOIN, 4), REFUSED);
        check.due("a wrong mark", x.act(0, MARK, -1), REFUSED);
        check.due("a right one", x.act(0, MARK, 3), FULL);
    }

    private void actBeginsAnew() {
        check.about("act: All begins anew then, as by reset");
        make(LOOSE, does(ENTER, 0, ENTER, 0, WAIT, 0), does(UNPARK, 2, INTERRUPT, 2), does(ASK, 0, MARK, 1, PARK, 0), does(ENTER, 1, PARK, 0, PARK, 0));
        step(0, 0, 0, 1, 1, 2, 2, 3, 3);
        choose(3, 3, 1);
        check.due("act", x.act(1, MARK, 3), 3);
        check.due("count(0)", x.count(0), 0);
        for (int t = 0; t < 4; t++) {
            state(t, RUNNING);
            letters(t);
        }
        monitor(0, REFUSED, 0);
        monitor(1, REFUSED, 0);
        set(0);
        // What was done once is as at first, too.
        step(3, 3);
        allows(3, 3);
        check.due("reset()", x.reset(), 2);
        check.about("act: begins anew an ENDED thread");
        make(STRICT, does(MARK, 0));
        step(0);
        state(0, ENDED);
        check.due("act", x.act(0, MARK, 1), 2);
        state(0, RUNNING);
        letters(0);
        step(0, 0);
        letters(0, 8, 9);
    }

    private void actWhatWasFoundIsGone() {
        check.about("act: and what was found is gone");
        make(STRICT, does(PARK, 0));
        check.due("explore()", x.explore(), 1);
        blocks(true, false, false, false);
        check.due("act", x.act(1, MARK, 0), 1);
        counts(0, 0, 0, 0);
        outcomes();
        blocks(false, false, false, false);
        check.due("explore()", x.explore(), 1);
        outcomes(outcome(19, part(8, 6), 18, 18));
    }

    private void chooseMakesOne() {
        check.about("choose: Makes a CHOICE in the present state: 1");
        make(STRICT, does(MARK, 0, MARK, 1), does(), does(), does(MARK, 2));
        choose(0, 0, 1);
        letters(0, 8);
        choose(3, 0, 1);
        letters(3, 10);
        choose(0, 0, 1);
        letters(0, 8, 9);
        check.due("count(0)", x.count(0), 3);
    }

    private void chooseNotAllowed() {
        check.about("choose: It is not allowed: 0");
        make(STRICT, does(MARK, 0), does(JOIN, 0));
        for (int t = 0; t < 4; t++) {
            for (int way = 0; way < 4; way++) {
                if (t != 0 || way != 0) {
                    choose(t, way, 0);
                }
            }
        }
        check.due("count(0)", x.count(0), 0);
        state(0, RUNNING);
        state(1, RUNNING);
        letters(0);
    }

    private void chooseOutOfRange() {
        check.about("choose: t out of 0 .. 3 or way out of 0 .. 3: REFUSED");
        int[] marks = does(MARK, 0, MARK, 1);
        make(LOOSE, marks, marks, marks, marks);
        for (int bad : NOT_0_TO_3) {
            choose(bad, 0, REFUSED);
            choose(bad, 3, REFUSED);
            choose(0, bad, REFUSED);
            choose(3, bad, REFUSED);
            choose(bad, bad, REFUSED);
        }
        check.due("count(0)", x.count(0), 0);
        for (int t = 0; t < 4; t++) {
            letters(t);
        }
        // An ENDED thread and a way that is none.
        make(STRICT);
        choose(1, 4, REFUSED);
        choose(1, 3, 0);
    }

    private void allowedAsChoose() {
        check.about("allowed: Whether the CHOICE is allowed now");
        make(LOOSE, does(ENTER, 0, WAIT_WITH_TIME, 0), does(ENTER, 0, NOTIFY, 0), does(INTERRUPT, 0), does(PARK, 0));
        allows(0, 0);
        step(0);
        allows(1);
        step(0);
        allows(0, 2, 3);
        allows(1, 0);
        step(2);
        allows(0, 1, 2, 3);
        allows(2);
        step(1);
        allows(1, 1, 2);
        step(3);
        allows(3, 3);
    }

    private void allowedOutOfRange() {
        check.about("allowed: false for numbers out of range");
        int[] waits = does(ENTER, 0, WAIT_WITH_TIME, 0);
        make(LOOSE, waits, waits, waits, waits);
        for (int bad : NOT_0_TO_3) {
            for (int good = 0; good < 4; good++) {
                check.due("allowed(" + bad + ", " + good + ")", x.allowed(bad, good), false);
                check.due("allowed(" + good + ", " + bad + ")", x.allowed(good, bad), false);
            }
            check.due("allowed(" + bad + ", " + bad + ")", x.allowed(bad, bad), false);
        }
    }

    private void allowedChangesNothing() {
        check.about("allowed: only asks");
        make(STRICT, does(INTERRUPT, 0, ASK, 0, MARK, 0));
        step(0);
        for (int i = 0; i < 3; i++) {
            allows(0, 0);
        }
        check.due("count(0)", x.count(0), 1);
        state(0, RUNNING + INTERRUPTED);
        letters(0);
    }

    private void resetToFirstState() {
        check.about("reset: The state is the first one again");
        make(LOOSE, does(ENTER, 0, ENTER, 0, WAIT, 0), does(UNPARK, 2, INTERRUPT, 2), does(ASK, 0, MARK, 1, PARK, 0), does(ENTER, 1, PARK, 0, PARK, 0));
        step(0, 0, 0, 2, 2, 1, 1, 3, 3);
        choose(3, 3, 1);
        choose(0, 2, 1);
        check.due("reset()", x.reset(), 11);
        for (int t = 0; t < 4; t++) {
            state(t, RUNNING);
            letters(t);
        }
        monitor(0, REFUSED, 0);
        monitor(1, REFUSED, 0);
        set(0);
        check.about("reset: what was done once can be done again");
        step(0, 0, 0, 3, 3);
        monitor(0, REFUSED, 0);
        allows(0, 2);
        allows(3, 3);
        check.about("reset: the same choices come to the same state");
        choose(0, 2, 1);
        step(0);
        monitor(0, 0, 2);
        check.about("reset: the programs stay");
        check.due("reset()", x.reset(), 7);
        check.due("act", x.act(1, MARK, 0), 3);
        check.due("act", x.act(2, MARK, 0), 4);
    }

    private void resetTellsHowMany() {
        check.about("reset: How many CHOICES were made since");
        make(STRICT, does(MARK, 0, MARK, 1, JOIN, 0));
        check.due("none were made", x.reset(), 0);
        step(0, 0);
        choose(0, 0, 0);
        choose(0, 4, REFUSED);
        choose(1, 0, 0);
        check.due("only those that were made", x.reset(), 2);
        check.due("none since the last reset", x.reset(), 0);
        step(0);
        check.due("one since", x.reset(), 1);
        step(0, 0);
        check.due("act", x.act(1, MARK, 0), 1);
        check.due("none since the act", x.reset(), 0);
        step(1);
        check.due("explore()", x.explore(), 1);
        check.due("explore makes none", x.reset(), 1);
    }

    private void stateNumbers() {
        check.about("state: 0 RUNNING, 1 in a set, 2 RETURNING, 3 PARKED, 4 ENDED; plus 8, plus 16");
        make(STRICT, does(ENTER, 0, WAIT_WITH_TIME, 0, PARK, 0), does(INTERRUPT, 0, UNPARK, 0), does(PARK, 0), does(INTERRUPT, 2));
        state(0, 0);
        step(0, 0);
        state(0, 1);
        step(1);
        state(0, 1 + 8);
        step(1);
        state(0, 1 + 8 + 16);
        state(1, 4);
        choose(0, 3, 1);
        state(0, 2 + 8 + 16);
        step(0);
        state(0, 8 + 16);
        step(0);
        state(0, 4 + 8);
        step(2);
        state(2, 3);
        step(3);
        state(2, 3 + 8);
        make(STRICT, does(UNPARK, 0, INTERRUPT, 0), does(UNPARK, 1));
        step(0);
        state(0, 16);
        step(0, 1);
        state(0, 4 + 8 + 16);
        state(1, 4 + 16);
    }

    private void stateOutOfRange() {
        check.about("state: REFUSED for another t");
        make(STRICT, does(MARK, 0), does(MARK, 0), does(MARK, 0), does(MARK, 0));
        for (int t : NOT_0_TO_3) {
            state(t, REFUSED);
        }
        state(0, RUNNING);
        state(3, RUNNING);
    }

    private void letterEdges() {
        check.about("letter: The k-th LETTER, from 0; REFUSED if there is none");
        make(STRICT, does(MARK, 1, LEAVE, 0, MARK, 2, LEAVE, 1, ASK, 0, MARK, 3), does(), does(), does(LEAVE, 0));
        letters(0);
        int[] due = {9, MISUSE, 10, MISUSE, NO, 11};
        for (int made = 1; made <= 6; made++) {
            step(0);
            for (int k = 0; k < 6; k++) {
                check.due("letter(0, " + k + ") after " + made, x.letter(0, k), k < made ? due[k] : REFUSED);
            }
        }
        step(3);
        letters(3, MISUSE);
        for (int k : new int[] {-1, -6, 6, 7, LEAST, MOST, 1 << 30, LEAST + 1}) {
            check.due("letter(0, " + k + ")", x.letter(0, k), REFUSED);
        }
    }

    private void letterOutOfRange() {
        check.about("letter: of a thread that there is not");
        int[] marks = does(MARK, 1);
        make(STRICT, marks, marks, marks, marks);
        step(0, 1, 2, 3);
        for (int t : NOT_0_TO_3) {
            check.due("letter(" + t + ", 0)", x.letter(t, 0), REFUSED);
            check.due("letter(" + t + ", " + t + ")", x.letter(t, t), REFUSED);
        }
        check.due("letter(3, 0)", x.letter(3, 0), 9);
    }

    private void ownerNone() {
        check.about("owner: REFUSED if it has none");
        make(STRICT, does(ENTER, 0, LEAVE, 0), does(), does(), does(ENTER, 1, WAIT, 1));
        for (int m = 0; m < 2; m++) {
            check.due("owner(" + m + ")", x.owner(m), REFUSED);
        }
        step(0, 3);
        check.due("owner(0)", x.owner(0), 0);
        check.due("owner(1)", x.owner(1), 3);
        step(0, 3);
        check.due("owner(0) when left", x.owner(0), REFUSED);
        check.due("owner(1) when it waits", x.owner(1), REFUSED);
    }

    private void ownerOutOfRange() {
        check.about("owner: of monitor m 0 .. 1");
        make(STRICT, does(ENTER, 0, ENTER, 1));
        step(0, 0);
        for (int m : NOT_0_TO_1) {
            check.due("owner(" + m + ")", x.owner(m), REFUSED);
        }
        check.due("owner(1)", x.owner(1), 0);
    }

    private void heldNone() {
        check.about("held: 0 if it has no owner");
        make(STRICT, does(ENTER, 1, ENTER, 1, LEAVE, 1, ENTER, 1, WAIT_WITH_TIME, 1));
        check.due("held(1)", x.held(1), 0);
        int[] due = {1, 2, 1, 2, 0};
        for (int held : due) {
            step(0);
            check.due("held(1)", x.held(1), held);
            check.due("held(0)", x.held(0), 0);
        }
        choose(0, 3, 1);
        check.due("held(1) when it is RETURNING", x.held(1), 0);
        step(0);
        check.due("held(1) when it came back", x.held(1), 2);
    }

    private void heldOutOfRange() {
        check.about("held: 0 for another m");
        make(STRICT, does(ENTER, 0, ENTER, 1));
        step(0, 0);
        for (int m : NOT_0_TO_1) {
            check.due("held(" + m + ")", x.held(m), 0);
        }
        check.due("held(0)", x.held(0), 1);
        check.due("held(1)", x.held(1), 1);
    }

    private void inSetEdges() {
        check.about("inSet: in the order in which they came in; REFUSED if there is none");
        int[] waiter = does(ENTER, 0, WAIT_WITH_TIME, 0, WAIT_WITH_TIME, 0);
        make(STRICT, waiter, waiter, waiter, waiter);
        set(0);
        step(2, 2);
        set(0, 2);
        step(3, 3, 0, 0, 1, 1);
        set(0, 2, 3, 0, 1);
        set(1);
        for (int k : new int[] {-1, -4, 4, 5, LEAST, MOST, 1 << 30, LEAST + 1}) {
            check.due("inSet(0, " + k + ")", x.inSet(0, k), REFUSED);
        }
        check.about("inSet: one from the middle leaves, and comes in as the last");
        choose(3, 3, 1);
        set(0, 2, 0, 1);
        step(3, 3);
        set(0, 2, 0, 1, 3);
        check.about("inSet: the first and the last leave");
        choose(2, 3, 1);
        choose(3, 3, 1);
        set(0, 0, 1);
    }

    private void inSetOutOfRange() {
        check.about("inSet: of a monitor that there is not");
        make(STRICT, does(ENTER, 0, WAIT, 0), does(ENTER, 1, WAIT, 1));
        step(0, 0, 1, 1);
        set(0, 0);
        set(1, 1);
        for (int m : NOT_0_TO_1) {
            check.due("inSet(" + m + ", 0)", x.inSet(m, 0), REFUSED);
            check.due("inSet(" + m + ", " + m + ")", x.inSet(m, m), REFUSED);
        }
    }

    private void last512thCall() {
        check.about("An object is used for at most 512 calls after it has been made");
        make(STRICT, does(MARK, 0, MARK, 1, ASK, 0));
        // Three calls were made; 101 rounds of five are 505 more.
        for (int round = 0; round < 101; round++) {
            step(0, 0, 0);
            check.due("letter(0, 2) in round " + round, x.letter(0, 2), NO);
            check.due("reset() in round " + round, x.reset(), 3);
        }
        check.due("call 509", x.explore(), 1);
        check.due("call 510", x.outcome(0), outcome(part(8, 9, NO, 6), 18, 18, 18));
        check.due("call 511", x.count(1), 4);
        check.due("call 512", x.choose(0, 0), 1);
    }

    private void allEnded() {
        for (int t = 0; t < 4; t++) {
            state(t, ENDED);
        }
    }
}
