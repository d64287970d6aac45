/** Promises 1, 2, 5 and 6 to 10: the calls themselves, their edges and wrong inputs. */
public final class CallsTest extends Scene {
    private static final int[] OUTSIDE = {-1, 4, 5, Integer.MIN_VALUE, Integer.MAX_VALUE};

    public static void main(String[] args) {
        CallsTest test = new CallsTest();
        test.newObject();
        test.kinds();
        test.actCounts();
        test.actRefuses();
        test.actFull();
        test.actBeginsAnew();
        test.refusedActChangesNothing();
        test.reset();
        test.states();
        test.letters();
        test.ownerAndHeld();
        test.sets();
        test.check.end();
    }

    private void newObject() {
        check.about("promise 1, a new object");
        for (int kind : new int[] {0, 1, 2, -1}) {
            make(kind);
            for (int t = 0; t < 4; t++) {
                state(t, ENDED);
                letters(t);
                allows(t);
                choose(t, 0, 0);
            }
            for (int m = 0; m < 2; m++) {
                monitor(m, REFUSED, 0);
                set(m);
            }
            check.due("count(0)", x.count(0), 0);
            counts(0, 0, 0, 0);
            outcomes();
            blocks(false, false, false, false);
        }
    }

    private void kinds() {
        check.about("promise 1, kinds");
        for (int kind : new int[] {0, 1, 2, -1, 257, Integer.MIN_VALUE, Integer.MAX_VALUE}) {
            boolean loose = kind == 1;
            make(kind, does(PARK, 0), does(ENTER, 0, WAIT, 0));
            step(0, 1, 1);
            check.due("kind " + kind + " allowed(0, 3)", x.allowed(0, 3), loose);
            check.due("kind " + kind + " allowed(1, 2)", x.allowed(1, 2), loose);
        }
    }

    private void actCounts() {
        check.about("promise 2, how many");
        make(STRICT);
        for (int length = 1; length <= 6; length++) {
            for (int t = 0; t < 4; t++) {
                check.due("act(" + t + ", 11, 0)", x.act(t, MARK, 0), length);
            }
        }
    }

    private void actRefuses() {
        check.about("promise 2, refused");
        make(STRICT);
        for (int t : OUTSIDE) {
            check.due("act(" + t + ", 11, 0)", x.act(t, MARK, 0), REFUSED);
        }
        for (int action : new int[] {-1, 13, Integer.MIN_VALUE, Integer.MAX_VALUE}) {
            check.due("act(0, " + action + ", 0)", x.act(0, action, 0), REFUSED);
        }
        for (int action = 0; action <= 12; action++) {
            make(STRICT);
            boolean free = action == PARK || action == SLEEP || action == ASK;
            int most = action <= 5 ? 1 : 3;
            check.due("act(0, " + action + ", 0)", x.act(0, action, 0), 1);
            check.due("act(0, " + action + ", " + most + ")", x.act(0, action, most), 2);
            int length = 2;
            for (int a : new int[] {-1, most + 1, Integer.MIN_VALUE, Integer.MAX_VALUE}) {
                length += free ? 1 : 0;
                check.due("act(0, " + action + ", " + a + ")", x.act(0, action, a), free ? length : REFUSED);
            }
        }
    }

    private void actFull() {
        check.about("promise 2, full");
        int[] six = does(MARK, 0, MARK, 1, MARK, 2, MARK, 3, ASK, 7, SLEEP, -3);
        make(STRICT, six);
        check.due("the seventh", x.act(0, MARK, 0), FULL);
        check.due("another thread's first", x.act(1, MARK, 0), 1);
        check.due("a wrong operand when full", x.act(0, MARK, 4), REFUSED);
        check.due("a wrong action when full", x.act(0, 13, 0), REFUSED);
        step(0, 0, 0, 0, 0, 0);
        state(0, ENDED);
        letters(0, 8, 9, 10, 11, NO);
    }

    private void actBeginsAnew() {
        check.about("promise 2, all begins anew");
        make(STRICT, does(ENTER, 0, WAIT, 0), does(MARK, 1, UNPARK, 3, ENTER, 1), does(), does(INTERRUPT, 3, MARK, 0));
        step(0, 0, 1, 1, 1, 3);
        check.due("explore()", x.explore(), 1);
        blocks(true, false, false, false);
        check.due("act", x.act(2, MARK, 3), 1);
        for (int t = 0; t < 4; t++) {
            state(t, RUNNING);
            letters(t);
        }
        set(0);
        monitor(0, REFUSED, 0);
        monitor(1, REFUSED, 0);
        check.due("count(0)", x.count(0), 0);
        check.due("reset()", x.reset(), 0);
        counts(0, 0, 0, 0);
        outcomes();
        blocks(false, false, false, false);
    }

    private void refusedActChangesNothing() {
        check.about("promise 2, a refused call changes nothing");
        make(STRICT, does(MARK, 0, MARK, 1, MARK, 2, MARK, 3, JOIN, 0, ASK, 0));
        step(0, 0);
        check.due("explore()", x.explore(), 1);
        check.due("FULL", x.act(0, MARK, 0), FULL);
        check.due("REFUSED", x.act(1, ENTER, 2), REFUSED);
        check.due("REFUSED", x.choose(1, 4), REFUSED);
        check.due("REFUSED", x.choose(-1, 0), REFUSED);
        letters(0, 8, 9);
        check.due("count(0)", x.count(0), 2);
        counts(5, 1, 0, 1);
        outcomes(outcome(part(8, 9, 10, 11, 7), part(6), part(6), part(6)));
        blocks(true, false, false, false);
        state(1, ENDED);
    }

    private void reset() {
        check.about("promise 5");
        make(LOOSE, does(ENTER, 0, ENTER, 0, WAIT, 0), does(UNPARK, 2, INTERRUPT, 2), does(PARK, 0, PARK, 0, PARK, 0));
        check.due("reset() at first", x.reset(), 0);
        step(0, 0, 0);
        choose(0, 0, 0);
        choose(0, 2, 1);
        step(2);
        choose(2, 3, 1);
        step(2);
        choose(2, 3, 0);
        check.due("explore()", x.explore() > 0, true);
        int found = x.count(1);
        check.due("reset()", x.reset(), 7);
        check.due("what was found stays", x.count(1), found);
        check.due("reset() again", x.reset(), 0);
        state(0, RUNNING);
        state(1, RUNNING);
        state(2, RUNNING);
        state(3, ENDED);
        monitor(0, REFUSED, 0);
        set(0);
        letters(0);
        step(2);
        allows(2, 3);
        check.due("count(0)", x.count(0), 1);
        step(0, 0, 0);
        allows(0, 2);
        check.due("reset()", x.reset(), 4);
        step(1, 1);
        state(2, RUNNING + INTERRUPTED + PERMIT);
        check.due("reset()", x.reset(), 2);
        state(2, RUNNING);
    }

    private void states() {
        check.about("promise 6");
        make(STRICT, does(ENTER, 0, WAIT, 0, PARK, 0), does(ENTER, 0, NOTIFY_ALL, 0, UNPARK, 0, INTERRUPT, 0, LEAVE, 0));
        state(0, RUNNING);
        state(2, ENDED);
        step(0, 0);
        state(0, IN_SET);
        step(1, 1);
        state(0, RETURNING);
        step(1);
        state(0, RETURNING + PERMIT);
        step(1);
        state(0, RETURNING + PERMIT + INTERRUPTED);
        step(1, 0);
        state(0, RUNNING + PERMIT + INTERRUPTED);
        step(0);
        state(0, ENDED + INTERRUPTED);
        make(STRICT, does(UNPARK, 0), does(INTERRUPT, 1, UNPARK, 1), does(PARK, 0), does(INTERRUPT, 2));
        step(0, 1, 1, 2);
        state(0, ENDED + PERMIT);
        state(1, ENDED + PERMIT + INTERRUPTED);
        state(2, PARKED);
        step(3);
        state(2, PARKED + INTERRUPTED);
        for (int t : OUTSIDE) {
            state(t, REFUSED);
        }
    }

    private void letters() {
        check.about("promise 7");
        make(STRICT, does(LEAVE, 0, LEAVE, 1, MARK, 3, ASK, 0, NOTIFY, 0, MARK, 0));
        letters(0);
        step(0, 0);
        letters(0, MISUSE, MISUSE);
        step(0, 0, 0, 0);
        letters(0, MISUSE, MISUSE, 11, NO, MISUSE, 8);
        for (int k : new int[] {-1, 6, 7, Integer.MIN_VALUE, Integer.MAX_VALUE}) {
            check.due("letter(0, " + k + ")", x.letter(0, k), REFUSED);
        }
        for (int t : OUTSIDE) {
            check.due("letter(" + t + ", 0)", x.letter(t, 0), REFUSED);
        }
        letters(1);
    }

    private void ownerAndHeld() {
        check.about("promises 8 and 9");
        make(STRICT, does(ENTER, 0, ENTER, 0, ENTER, 0, ENTER, 0, ENTER, 0, ENTER, 0), does(), does(), does(ENTER, 1, LEAVE, 1));
        monitor(0, REFUSED, 0);
        for (int held = 1; held <= 6; held++) {
            step(0);
            monitor(0, 0, held);
        }
        monitor(1, REFUSED, 0);
        step(3);
        monitor(1, 3, 1);
        step(3);
        monitor(1, REFUSED, 0);
        state(0, ENDED);
        monitor(0, 0, 6);
        for (int m : new int[] {-1, 2, 3, Integer.MIN_VALUE, Integer.MAX_VALUE}) {
            monitor(m, REFUSED, 0);
        }
    }

    private void sets() {
        check.about("promise 10");
        int[] waiter = does(ENTER, 0, WAIT_WITH_TIME, 0);
        make(STRICT, waiter, waiter, waiter, waiter);
        step(2, 2, 0, 0, 3, 3, 1, 1);
        set(0, 2, 0, 3, 1);
        set(1);
        choose(0, 3, 1);
        set(0, 2, 3, 1);
        choose(1, 3, 1);
        set(0, 2, 3);
        choose(2, 3, 1);
        set(0, 3);
        for (int k : new int[] {-1, 1, 4, Integer.MIN_VALUE, Integer.MAX_VALUE}) {
            check.due("inSet(0, " + k + ")", x.inSet(0, k), REFUSED);
        }
        for (int m : new int[] {-1, 2, Integer.MIN_VALUE, Integer.MAX_VALUE}) {
            check.due("inSet(" + m + ", 0)", x.inSet(m, 0), REFUSED);
        }
        make(STRICT, does(ENTER, 1, WAIT, 1));
        step(0, 0);
        set(1, 0);
        set(0);
    }
}
