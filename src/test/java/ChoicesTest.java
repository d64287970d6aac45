/** Promises 3 and 4: each choice of the document's terms, when it is allowed and what it does. */
public final class ChoicesTest extends Scene {
    public static void main(String[] args) {
        ChoicesTest test = new ChoicesTest();
        test.numbersOutOfRange();
        test.enterAndLeave();
        test.keepsMonitorWhenEnded();
        test.waitAndReturn();
        test.waitMisusedOrBrokenOff();
        test.notifyOne();
        test.notifyAllWaiters();
        test.interruptsInSet();
        test.timesOut();
        test.interrupt();
        test.park();
        test.unpark();
        test.join();
        test.sleepMarkAsk();
        test.straysOnce();
        test.check.end();
    }

    private void numbersOutOfRange() {
        check.about("choose and allowed, out of range");
        make(LOOSE, does(MARK, 0));
        for (int bad : new int[] {-1, 4, Integer.MIN_VALUE, Integer.MAX_VALUE}) {
            choose(bad, 0, REFUSED);
            choose(0, bad, REFUSED);
            check.due("allowed", x.allowed(bad, 0), false);
            check.due("allowed", x.allowed(0, bad), false);
        }
        check.due("count(0)", x.count(0), 0);
        allows(0, 0);
        choose(0, 1, 0);
        choose(0, 2, 0);
        choose(0, 3, 0);
        letters(0);
        check.due("count(0)", x.count(0), 0);
        step(0);
        letters(0, 8);
        check.due("count(0)", x.count(0), 1);
        allows(0);
    }

    private void enterAndLeave() {
        check.about("ENTER and LEAVE");
        make(STRICT, does(ENTER, 0, ENTER, 0, LEAVE, 0, LEAVE, 0, LEAVE, 0), does(ENTER, 0, LEAVE, 1), does(LEAVE, 0, ENTER, 1));
        allows(0, 0);
        allows(1, 0);
        step(0);
        allows(1);
        choose(1, 0, 0);
        step(2);
        letters(2, MISUSE);
        monitor(0, 0, 1);
        step(2);
        monitor(1, 2, 1);
        step(0);
        monitor(0, 0, 2);
        step(0);
        monitor(0, 0, 1);
        allows(1);
        step(0);
        monitor(0, REFUSED, 0);
        allows(1, 0);
        step(0);
        letters(0, MISUSE);
        state(0, ENDED);
        step(1, 1);
        letters(1, MISUSE);
        monitor(0, 1, 1);
        monitor(1, 2, 1);
    }

    private void keepsMonitorWhenEnded() {
        check.about("a thread that ENDS keeps its monitors");
        make(STRICT, does(ENTER, 0), does(ENTER, 0));
        step(0);
        state(0, ENDED);
        monitor(0, 0, 1);
        allows(1);
    }

    private void waitAndReturn() {
        check.about("WAIT, and RETURNING");
        make(STRICT, does(ENTER, 1, ENTER, 1, ENTER, 1, WAIT, 1), does(ENTER, 1, NOTIFY, 1, LEAVE, 1), does(ENTER, 1, LEAVE, 1));
        step(0, 0, 0, 0);
        state(0, IN_SET);
        monitor(1, REFUSED, 0);
        set(1, 0);
        set(0);
        letters(0);
        allows(0);
        step(1);
        monitor(1, 1, 1);
        choose(1, 1, 1);
        state(0, RETURNING);
        set(1);
        letters(0, NOTIFIED);
        allows(0);
        step(1);
        allows(0, 0);
        step(2);
        allows(0);
        step(2);
        step(0);
        monitor(1, 0, 3);
        state(0, ENDED);
        letters(0, NOTIFIED);
    }

    private void waitMisusedOrBrokenOff() {
        check.about("WAIT, not the owner or INTERRUPTED");
        for (int action : new int[] {WAIT, WAIT_WITH_TIME}) {
            make(STRICT, does(INTERRUPT, 0, action, 0, ENTER, 0, action, 0, ASK, 0), does(ENTER, 1), does(action, 1));
            step(1, 2);
            letters(2, MISUSE);
            state(2, ENDED);
            step(0, 0);
            letters(0, MISUSE);
            state(0, RUNNING + INTERRUPTED);
            step(0, 0);
            letters(0, MISUSE, BROKEN_OFF);
            state(0, RUNNING);
            monitor(0, 0, 1);
            set(0);
            step(0);
            letters(0, MISUSE, BROKEN_OFF, NO);
        }
    }

    private void notifyOne() {
        check.about("NOTIFY");
        int[] waiter = does(ENTER, 0, WAIT, 0);
        make(STRICT, waiter, waiter, waiter, does(NOTIFY, 0, ENTER, 0, NOTIFY, 0, NOTIFY, 0, NOTIFY, 0, NOTIFY, 0));
        step(1, 1, 0, 0, 2, 2);
        allows(3, 0);
        step(3);
        letters(3, MISUSE);
        set(0, 1, 0, 2);
        step(3);
        allows(3, 1, 2);
        choose(3, 0, 0);
        choose(3, 3, 0);
        choose(3, 1, 1);
        set(0, 0, 2);
        state(1, RETURNING);
        letters(1, NOTIFIED);
        choose(3, 2, 1);
        set(0, 0);
        state(2, RETURNING);
        letters(2, NOTIFIED);
        state(0, IN_SET);
        allows(3, 1, 2);
        choose(3, 2, 1);
        set(0);
        letters(0, NOTIFIED);
        allows(3, 0);
        step(3);
        letters(3, MISUSE);
        state(3, ENDED);
        monitor(0, 3, 1);
        check.about("NOTIFY of another monitor");
        make(STRICT, waiter, does(ENTER, 1, NOTIFY, 1, NOTIFY, 0));
        step(0, 0, 1);
        allows(1, 0);
        step(1);
        allows(1, 0);
        step(1);
        letters(1, MISUSE);
        set(0, 0);
        letters(0);
    }

    private void notifyAllWaiters() {
        check.about("NOTIFY ALL");
        int[] waiter = does(ENTER, 0, ENTER, 0, WAIT, 0, MARK, 1);
        make(STRICT, waiter, waiter, does(ENTER, 1, WAIT, 1), does(NOTIFY_ALL, 0, ENTER, 0, NOTIFY_ALL, 0, NOTIFY_ALL, 0, LEAVE, 0));
        step(1, 1, 1, 0, 0, 0, 2, 2);
        step(3);
        letters(3, MISUSE);
        set(0, 1, 0);
        step(3);
        allows(3, 0);
        step(3);
        set(0);
        set(1, 2);
        state(0, RETURNING);
        state(1, RETURNING);
        state(2, IN_SET);
        letters(0, NOTIFIED);
        letters(1, NOTIFIED);
        letters(2);
        allows(3, 0);
        step(3, 3);
        letters(3, MISUSE);
        allows(0, 0);
        allows(1, 0);
        step(0);
        monitor(0, 0, 2);
        allows(1);
        step(0);
        letters(0, NOTIFIED, 9);
    }

    private void interruptsInSet() {
        check.about("INTERRUPTED in a set");
        int[] waiter = does(ENTER, 0, WAIT, 0, ASK, 0);
        make(STRICT, waiter, waiter, does(INTERRUPT, 0, INTERRUPT, 1), does(ENTER, 0, NOTIFY, 0, LEAVE, 0));
        step(0, 0, 1, 1);
        allows(0);
        choose(0, 1, 0);
        step(2, 2);
        state(0, IN_SET + INTERRUPTED);
        set(0, 0, 1);
        allows(0, 1);
        choose(0, 1, 1);
        state(0, RETURNING);
        letters(0, BROKEN_OFF);
        set(0, 1);
        check.about("NOTIFIED and INTERRUPTED, which stays");
        step(3);
        choose(3, 1, 1);
        state(1, RETURNING + INTERRUPTED);
        letters(1, NOTIFIED);
        allows(1);
        step(3);
        allows(1, 0);
        step(1, 1);
        letters(1, NOTIFIED, YES);
        state(1, ENDED);
        monitor(0, 1, 1);
        allows(0);
    }

    private void timesOut() {
        check.about("WAIT with a time");
        make(STRICT, does(ENTER, 0, WAIT_WITH_TIME, 0, MARK, 2), does(ENTER, 0, WAIT, 0), does(INTERRUPT, 0, ENTER, 0, LEAVE, 0));
        step(0, 0, 1, 1);
        allows(0, 3);
        allows(1);
        choose(1, 3, 0);
        step(2);
        allows(0, 1, 3);
        step(2);
        choose(0, 3, 1);
        state(0, RETURNING + INTERRUPTED);
        letters(0, TIMED_OUT);
        set(0, 1);
        allows(0);
        step(2);
        allows(0, 0);
        step(0, 0);
        letters(0, TIMED_OUT, 10);
        state(0, ENDED + INTERRUPTED);
    }

    private void interrupt() {
        check.about("INTERRUPT");
        make(STRICT, does(INTERRUPT, 1, INTERRUPT, 0, INTERRUPT, 3, MARK, 0), does(MARK, 1, ASK, 0, ASK, 0), does(INTERRUPT, 0));
        step(0);
        state(1, RUNNING + INTERRUPTED);
        step(0);
        state(0, RUNNING + INTERRUPTED);
        step(0);
        state(3, ENDED);
        step(0);
        state(0, ENDED + INTERRUPTED);
        step(1, 1);
        letters(1, 9, YES);
        state(1, RUNNING);
        step(1);
        letters(1, 9, YES, NO);
        make(STRICT, does(INTERRUPT, 1), does(MARK, 0));
        step(1, 0);
        state(1, ENDED);
        state(0, ENDED);
    }

    private void park() {
        check.about("PARK");
        make(STRICT, does(UNPARK, 0, UNPARK, 0, INTERRUPT, 0, PARK, 0, PARK, 0, ASK, 0), does(PARK, 0), does(INTERRUPT, 1));
        step(0, 0, 0);
        state(0, RUNNING + INTERRUPTED + PERMIT);
        step(0);
        state(0, RUNNING + INTERRUPTED);
        step(0);
        state(0, RUNNING + INTERRUPTED);
        step(0);
        letters(0, YES);
        state(0, ENDED);
        step(1);
        state(1, PARKED);
        allows(1);
        step(2);
        state(1, PARKED + INTERRUPTED);
        allows(1, 1);
        choose(1, 1, 1);
        state(1, ENDED + INTERRUPTED);
        letters(1);
    }

    private void unpark() {
        check.about("UNPARK");
        make(STRICT, does(PARK, 0, PARK, 0), does(UNPARK, 0, UNPARK, 0, UNPARK, 2), does(), does(INTERRUPT, 0));
        step(0, 3, 1);
        state(0, RUNNING + INTERRUPTED);
        step(1);
        state(0, RUNNING + INTERRUPTED + PERMIT);
        step(0);
        state(0, ENDED + INTERRUPTED);
        step(1);
        state(2, ENDED);
        check.about("UNPARK of the last action");
        make(STRICT, does(PARK, 0), does(UNPARK, 0));
        step(0, 1);
        state(0, ENDED);
        check.about("UNPARK of one in a set");
        make(STRICT, does(ENTER, 0, WAIT, 0), does(UNPARK, 0));
        step(0, 0, 1);
        state(0, IN_SET + PERMIT);
        allows(0);
    }

    private void join() {
        check.about("JOIN");
        make(STRICT, does(JOIN, 1, MARK, 0), does(MARK, 1), does(JOIN, 2, MARK, 2), does(INTERRUPT, 2, JOIN, 0));
        allows(0);
        allows(2);
        choose(2, 0, 0);
        step(1);
        allows(0, 0);
        step(0);
        letters(0);
        state(0, RUNNING);
        step(3);
        allows(2, 0);
        step(2);
        letters(2, BROKEN_OFF);
        state(2, RUNNING);
        allows(3);
        step(0, 3);
        letters(3);
        state(3, ENDED);
        check.about("JOIN, INTERRUPTED though the other has ENDED");
        make(STRICT, does(INTERRUPT, 0, JOIN, 3));
        step(0, 0);
        letters(0, BROKEN_OFF);
        state(0, ENDED);
        check.about("JOIN of itself, INTERRUPTED");
        make(STRICT, does(INTERRUPT, 0, JOIN, 0));
        step(0, 0);
        letters(0, BROKEN_OFF);
        state(0, ENDED);
    }

    private void sleepMarkAsk() {
        check.about("SLEEP, MARK and ASK");
        make(STRICT, does(SLEEP, 0, INTERRUPT, 0, SLEEP, 9, ASK, -1, INTERRUPT, 0, ASK, 0), does(MARK, 0, MARK, 1, MARK, 2, MARK, 3));
        step(0);
        letters(0);
        step(0, 0);
        letters(0, BROKEN_OFF);
        state(0, RUNNING);
        step(0);
        letters(0, BROKEN_OFF, NO);
        step(0, 0);
        letters(0, BROKEN_OFF, NO, YES);
        state(0, ENDED);
        step(1, 1, 1, 1);
        letters(1, 8, 9, 10, 11);
    }

    private void straysOnce() {
        check.about("LOOSE, in a set by way 2");
        make(LOOSE, does(ENTER, 0, ENTER, 0, WAIT, 0, WAIT, 0, PARK, 0), does(PARK, 0, PARK, 0, ENTER, 0, WAIT_WITH_TIME, 0), does(UNPARK, 1));
        step(0, 0, 0);
        allows(0, 2);
        choose(0, 2, 1);
        state(0, RETURNING);
        letters(0);
        set(0);
        allows(0, 0);
        step(0);
        monitor(0, 0, 2);
        step(0);
        state(0, IN_SET);
        allows(0);
        check.about("LOOSE, PARKED by way 3");
        step(1);
        allows(1, 3);
        choose(1, 2, 0);
        choose(1, 3, 1);
        state(1, RUNNING);
        letters(1);
        step(1);
        allows(1);
        step(2);
        step(1, 1);
        state(1, IN_SET);
        allows(1, 3);
    }
}
