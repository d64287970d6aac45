/** The sentences of the document's Terms that name an edge, each with a test of its own. */
public final class TermsEdgesTest extends Scene {
    public static void main(String[] args) {
        TermsEdgesTest test = new TermsEdgesTest();
        test.programs();
        test.operands();
        test.choices();
        test.monitors();
        test.waits();
        test.notifies();
        test.others();
        test.standing();
        test.leavingSets();
        test.returning();
        test.parked();
        test.loose();
        test.ends();
        test.check.end();
    }

    private void programs() {
        atMostSixActions();
        firstState();
        resultIsEmptyAtFirst();
        lettersHaveTheirNumbers();
    }

    private void operands() {
        monitorsAreTwo();
        threadsAreFour();
        marksAreFour();
    }

    private void choices() {
        waysThatRunningHasNot();
        endedHasNone();
    }

    private void monitors() {
        enterFreeOwnAndForeign();
        leaveForeignAndFree();
        leaveDownToNothing();
    }

    private void waits() {
        waitNotOwner();
        waitInterrupted();
        waitKeepsCount();
        waitLeavesOtherMonitor();
        setTakesAllThreads();
    }

    private void notifies() {
        notifyNotOwner();
        notifyNoneThere();
        notifyOneThere();
        notifyManyThere();
        notifyAllNotOwner();
        notifyAllNoneOneAndThree();
    }

    private void others() {
        interruptEnded();
        interruptTwice();
        interruptSelf();
        parkWithPermit();
        parkInterrupted();
        parkWithBoth();
        parkWithNeither();
        unparkEnded();
        unparkParked();
        unparkTwice();
        joinEndedOrNot();
        joinItself();
        joinInterrupted();
        sleepBothWays();
        askBothWays();
    }

    private void standing() {
        endsAfterLastAction();
        endsAfterLastWaitOrPark();
    }

    private void leavingSets() {
        timeOnlyWithTime();
        brokenOffOnlyInterrupted();
        letterAtLeaving();
        interruptStaysBesideOtherLetters();
    }

    private void returning() {
        returnsOnlyWhenFree();
        returningHasOneWay();
    }

    private void parked() {
        parkedByInterruptOnly();
        parkedHasNoOtherWay();
    }

    private void loose() {
        straysOnlyIfLoose();
        straysFromSetOnce();
        straysFromParkOnce();
        strayedIsOneForBoth();
        strayedIsEachThreadsOwn();
        otherLeavingIsNoStraying();
        strayingLeavesInterrupts();
        straysFromOwnedMonitor();
    }

    private void ends() {
        keepsMonitorsAtEnd();
        finalAndBlocked();
    }

    private void atMostSixActions() {
        check.about("each have a PROGRAM of at most 6 actions");
        int[] six = does(MARK, 0, MARK, 1, MARK, 2, MARK, 3, MARK, 2, MARK, 1);
        make(STRICT, six, six, six, six);
        for (int t = 0; t < 4; t++) {
            check.due("the seventh of " + t, x.act(t, MARK, 0), FULL);
            step(t, t, t, t, t);
            state(t, RUNNING);
            step(t);
            state(t, ENDED);
            letters(t, 8, 9, 10, 11, 10, 9);
            choose(t, 0, 0);
        }
    }

    private void firstState() {
        check.about("A thread is RUNNING at first, standing at its first action, or has ENDED if it has none");
        make(STRICT, does(MARK, 2, MARK, 0), does(), does(PARK, 0));
        state(0, RUNNING);
        state(1, ENDED);
        state(2, RUNNING);
        state(3, ENDED);
        step(0);
        letters(0, 10);
        check.about("It may be INTERRUPTED, and may have a PERMIT; at first neither");
        make(LOOSE, does(ASK, 0), does(PARK, 0), does(PARK, 0));
        step(0, 1);
        letters(0, NO);
        state(1, PARKED);
        check.about("A monitor has an owner and a count, or none");
        make(STRICT, does(ENTER, 1));
        monitor(0, REFUSED, 0);
        monitor(1, REFUSED, 0);
        step(0);
        monitor(0, REFUSED, 0);
        monitor(1, 0, 1);
    }

    private void resultIsEmptyAtFirst() {
        check.about("A thread's RESULT is a row of LETTERS, empty at first");
        make(STRICT, does(ASK, 0));
        for (int t = 0; t < 4; t++) {
            letters(t);
        }
    }

    private void lettersHaveTheirNumbers() {
        check.about("0 MISUSE, 1 BROKEN OFF, 2 NOTIFIED, 3 TIMED OUT, 4 YES, 5 NO, 8 + a MARK");
        make(STRICT, does(LEAVE, 0, INTERRUPT, 0, SLEEP, 0, INTERRUPT, 0, ASK, 0, ASK, 0), does(ENTER, 0, WAIT, 0, WAIT_WITH_TIME, 0, MARK, 0, MARK, 3),
            does(ENTER, 0, NOTIFY_ALL, 0, LEAVE, 0));
        step(0, 0, 0, 0, 0, 0);
        letters(0, 0, 1, 4, 5);
        step(1, 1, 2, 2, 2, 1, 1);
        choose(1, 3, 1);
        step(1, 1, 1);
        letters(1, 2, 3, 8, 11);
    }

    private void monitorsAreTwo() {
        check.about("MONITORS are 0 and 1");
        make(STRICT, does(ENTER, 0), does(ENTER, 1));
        step(0, 1);
        monitor(0, 0, 1);
        monitor(1, 1, 1);
        for (int action = ENTER; action <= NOTIFY_ALL; action++) {
            check.due("act(2, " + action + ", -1)", x.act(2, action, -1), REFUSED);
            check.due("act(2, " + action + ", 2)", x.act(2, action, 2), REFUSED);
        }
        state(2, ENDED);
    }

    private void threadsAreFour() {
        check.about("INTERRUPT thread a (0 .. 3), UNPARK thread a, JOIN thread a");
        for (int a : new int[] {0, 3}) {
            make(STRICT, does(PARK, 0), does(INTERRUPT, a, UNPARK, a), does(JOIN, a, MARK, 1), does(PARK, 0));
            allows(2);
            step(1);
            state(a, RUNNING + INTERRUPTED);
            state(3 - a, RUNNING);
            step(1);
            state(a, RUNNING + INTERRUPTED + PERMIT);
            state(3 - a, RUNNING);
            step(a);
            state(a, ENDED + INTERRUPTED);
            step(2, 2);
            letters(2, 9);
        }
    }

    private void marksAreFour() {
        check.about("MARK a (0 .. 3)");
        make(STRICT, does(MARK, 3, MARK, 2, MARK, 1, MARK, 0));
        check.due("act(0, 11, 4)", x.act(0, MARK, 4), REFUSED);
        check.due("act(0, 11, -1)", x.act(0, MARK, -1), REFUSED);
        step(0, 0, 0, 0);
        letters(0, 11, 10, 9, 8);
        state(0, ENDED);
    }

    private void waysThatRunningHasNot() {
        check.about("a RUNNING thread, way 0");
        for (int action = 0; action <= 12; action++) {
            // JOIN of thread 3, which has ENDED, is allowed too.
            int operand = action == JOIN ? 3 : 0;
            make(LOOSE, does(action, operand));
            for (int way = 1; way < 4; way++) {
                check.due(action + " allowed(0, " + way + ")", x.allowed(0, way), false);
                choose(0, way, 0);
            }
            state(0, RUNNING);
            allows(0, 0);
            choose(0, 0, 1);
        }
    }

    private void endedHasNone() {
        check.about("an ENDED thread has no choice");
        make(LOOSE, does(INTERRUPT, 0, UNPARK, 0));
        step(0, 0);
        state(0, ENDED + INTERRUPTED + PERMIT);
        allows(0);
        allows(1);
        for (int way = 0; way < 4; way++) {
            choose(0, way, 0);
            choose(1, way, 0);
        }
        state(0, ENDED + INTERRUPTED + PERMIT);
    }

    private void enterFreeOwnAndForeign() {
        check.about("ENTER: the monitor has no owner, or this thread: it has it with a count one more. (Owned by another thread: not allowed.)");
        make(LOOSE, does(ENTER, 0, ENTER, 0, ENTER, 0, ENTER, 0, ENTER, 0, ENTER, 0), does(ENTER, 0), does(), does(ENTER, 1));
        for (int held = 1; held <= 6; held++) {
            step(0);
            monitor(0, 0, held);
            allows(1);
            choose(1, 0, 0);
            monitor(0, 0, held);
        }
        allows(3, 0);
        step(3);
        monitor(1, 3, 1);
        monitor(0, 0, 6);
    }

    private void leaveForeignAndFree() {
        check.about("LEAVE: it is not the owner: MISUSE");
        make(STRICT, does(LEAVE, 0, MARK, 0), does(ENTER, 0), does(LEAVE, 0, LEAVE, 1));
        step(0);
        letters(0, MISUSE);
        monitor(0, REFUSED, 0);
        step(1, 2);
        letters(2, MISUSE);
        monitor(0, 1, 1);
        step(2);
        letters(2, MISUSE, MISUSE);
    }

    private void leaveDownToNothing() {
        check.about("LEAVE: else the count falls by one, and at 0 there is no owner");
        make(STRICT, does(ENTER, 1, ENTER, 1, LEAVE, 1, LEAVE, 1, LEAVE, 1), does(ENTER, 1));
        step(0, 0, 0);
        monitor(1, 0, 1);
        allows(1);
        step(0);
        monitor(1, REFUSED, 0);
        letters(0);
        allows(1, 0);
        step(0);
        letters(0, MISUSE);
        monitor(1, REFUSED, 0);
    }

    private void waitNotOwner() {
        check.about("WAIT: it is not the owner: MISUSE");
        for (int action : new int[] {WAIT, WAIT_WITH_TIME}) {
            make(STRICT, does(action, 0), does(ENTER, 1), does(action, 1), does(ENTER, 0, action, 1));
            step(0);
            letters(0, MISUSE);
            state(0, ENDED);
            step(1, 2);
            letters(2, MISUSE);
            monitor(1, 1, 1);
            step(3, 3);
            letters(3, MISUSE);
            monitor(0, 3, 1);
            set(0);
            set(1);
        }
        check.about("WAIT: not the owner and INTERRUPTED, which stays");
        make(STRICT, does(INTERRUPT, 0, WAIT, 0));
        step(0, 0);
        letters(0, MISUSE);
        state(0, ENDED + INTERRUPTED);
    }

    private void waitInterrupted() {
        check.about("WAIT: it is INTERRUPTED: that is no more, and BROKEN OFF");
        for (int action : new int[] {WAIT, WAIT_WITH_TIME}) {
            make(STRICT, does(ENTER, 0, ENTER, 0, INTERRUPT, 0, action, 0, action, 0));
            step(0, 0, 0, 0);
            letters(0, BROKEN_OFF);
            state(0, RUNNING);
            monitor(0, 0, 2);
            set(0);
            step(0);
            state(0, IN_SET);
            letters(0, BROKEN_OFF);
        }
    }

    private void waitKeepsCount() {
        check.about("WAIT: else it is WAITING in the monitor's set, the count is kept for it, and there is no owner");
        make(STRICT, does(ENTER, 0, ENTER, 0, ENTER, 0, ENTER, 0, ENTER, 0, WAIT_WITH_TIME, 0), does(ENTER, 0, LEAVE, 0));
        step(0, 0, 0, 0, 0);
        monitor(0, 0, 5);
        step(0);
        monitor(0, REFUSED, 0);
        set(0, 0);
        letters(0);
        step(1);
        monitor(0, 1, 1);
        step(1);
        choose(0, 3, 1);
        monitor(0, REFUSED, 0);
        step(0);
        monitor(0, 0, 5);
    }

    private void waitLeavesOtherMonitor() {
        check.about("WAIT on one monitor leaves the other one as it is");
        make(STRICT, does(ENTER, 0, ENTER, 1, ENTER, 1, WAIT_WITH_TIME, 0), does(ENTER, 1));
        step(0, 0, 0, 0);
        monitor(0, REFUSED, 0);
        monitor(1, 0, 2);
        allows(1);
        set(0, 0);
        set(1);
        choose(0, 3, 1);
        step(0);
        monitor(0, 0, 1);
        monitor(1, 0, 2);
    }

    private void setTakesAllThreads() {
        check.about("all threads in one set");
        int[] waiter = does(ENTER, 1, WAIT, 1);
        make(STRICT, waiter, waiter, waiter, waiter);
        step(3, 3, 1, 1, 0, 0, 2, 2);
        set(1, 3, 1, 0, 2);
        set(0);
        for (int t = 0; t < 4; t++) {
            allows(t);
        }
    }

    private void notifyNotOwner() {
        check.about("NOTIFY: not the owner: MISUSE");
        make(STRICT, does(ENTER, 0, WAIT, 0), does(NOTIFY, 0), does(ENTER, 0), does(NOTIFY, 0));
        step(0, 0);
        allows(1, 0);
        step(1);
        letters(1, MISUSE);
        step(2);
        allows(3, 0);
        step(3);
        letters(3, MISUSE);
        set(0, 0);
        letters(0);
    }

    private void notifyNoneThere() {
        check.about("NOTIFY: (None there: way 0 does nothing.)");
        make(LOOSE, does(ENTER, 0, NOTIFY, 0, MARK, 0), does(ENTER, 1, WAIT, 1));
        step(1, 1, 0);
        allows(0, 0);
        choose(0, 1, 0);
        choose(0, 2, 0);
        choose(0, 3, 0);
        step(0);
        letters(0);
        monitor(0, 0, 1);
        set(1, 1);
        step(0);
        letters(0, 8);
    }

    private void notifyOneThere() {
        check.about("NOTIFY: if any is in the monitor's set, not allowed by way 0, but by way 1 or way 2");
        for (int way = 1; way <= 2; way++) {
            make(LOOSE, does(ENTER, 0, WAIT, 0), does(ENTER, 0, NOTIFY, 0, NOTIFY, 0));
            step(0, 0, 1);
            allows(1, 1, 2);
            choose(1, 0, 0);
            choose(1, 3, 0);
            state(0, IN_SET);
            choose(1, way, 1);
            state(0, RETURNING);
            letters(0, NOTIFIED);
            letters(1);
            set(0);
            allows(1, 0);
        }
    }

    private void notifyManyThere() {
        check.about("NOTIFY: way 1: the one that came in first, or way 2: the one that came in last");
        int[] waiter = does(ENTER, 0, WAIT, 0);
        for (int way = 1; way <= 2; way++) {
            make(STRICT, waiter, does(ENTER, 0, NOTIFY, 0), waiter, waiter);
            step(3, 3, 0, 0, 2, 2, 1);
            set(0, 3, 0, 2);
            choose(1, way, 1);
            if (way == 1) {
                set(0, 0, 2);
            } else {
                set(0, 3, 0);
            }
            int taken = way == 1 ? 3 : 2;
            state(taken, RETURNING);
            letters(taken, NOTIFIED);
            state(0, IN_SET);
            letters(0);
            state(5 - taken, IN_SET);
            letters(5 - taken);
            monitor(0, 1, 1);
        }
    }

    private void notifyAllNotOwner() {
        check.about("NOTIFY ALL: not the owner: MISUSE");
        make(STRICT, does(ENTER, 0, WAIT, 0), does(NOTIFY_ALL, 0), does(ENTER, 0), does(NOTIFY_ALL, 0));
        step(0, 0, 1);
        letters(1, MISUSE);
        step(2, 3);
        letters(3, MISUSE);
        set(0, 0);
        state(0, IN_SET);
    }

    private void notifyAllNoneOneAndThree() {
        check.about("NOTIFY ALL: else all in the set are taken out and NOTIFIED");
        int[] waiter = does(ENTER, 0, WAIT, 0);
        for (int waiting = 0; waiting <= 3; waiting++) {
            make(LOOSE, waiter, waiter, waiter, does(ENTER, 0, NOTIFY_ALL, 0, LEAVE, 0));
            for (int t = 0; t < waiting; t++) {
                step(t, t);
            }
            step(3);
            allows(3, 0);
            step(3);
            set(0);
            letters(3);
            for (int t = 0; t < 3; t++) {
                state(t, t < waiting ? RETURNING : RUNNING);
                if (t < waiting) {
                    letters(t, NOTIFIED);
                } else {
                    letters(t);
                }
            }
        }
    }

    private void interruptEnded() {
        check.about("INTERRUPT: thread a, if it has not ENDED, becomes INTERRUPTED");
        make(STRICT, does(INTERRUPT, 1, INTERRUPT, 2, MARK, 0), does(MARK, 0));
        step(1, 0, 0);
        state(1, ENDED);
        state(2, ENDED);
        state(0, RUNNING);
        letters(0);
    }

    private void interruptTwice() {
        check.about("INTERRUPT: twice is no more than once");
        make(STRICT, does(INTERRUPT, 1, INTERRUPT, 1), does(ASK, 0, ASK, 0));
        step(0, 0, 1, 1);
        letters(1, YES, NO);
    }

    private void interruptSelf() {
        check.about("INTERRUPT: itself, and by its last action, before it has ENDED");
        make(STRICT, does(INTERRUPT, 0));
        step(0);
        state(0, ENDED + INTERRUPTED);
        check.about("INTERRUPT: one that waits, returns, is parked");
        make(STRICT, does(INTERRUPT, 1, INTERRUPT, 2, INTERRUPT, 3), does(ENTER, 0, WAIT, 0), does(ENTER, 1, WAIT_WITH_TIME, 1), does(PARK, 0));
        step(1, 1, 2, 2, 3);
        choose(2, 3, 1);
        step(0, 0, 0);
        state(1, IN_SET + INTERRUPTED);
        state(2, RETURNING + INTERRUPTED);
        state(3, PARKED + INTERRUPTED);
        letters(1);
        letters(2, TIMED_OUT);
        letters(3);
    }

    private void parkWithPermit() {
        check.about("PARK: it has a PERMIT: that is no more");
        make(STRICT, does(UNPARK, 0, PARK, 0, PARK, 0));
        step(0);
        state(0, RUNNING + PERMIT);
        step(0);
        state(0, RUNNING);
        step(0);
        state(0, PARKED);
        letters(0);
    }

    private void parkInterrupted() {
        check.about("PARK: or it is INTERRUPTED (which stays)");
        make(STRICT, does(INTERRUPT, 0, PARK, 0, PARK, 0, ASK, 0, PARK, 0));
        step(0, 0);
        state(0, RUNNING + INTERRUPTED);
        step(0);
        state(0, RUNNING + INTERRUPTED);
        step(0);
        letters(0, YES);
        step(0);
        state(0, PARKED);
    }

    private void parkWithBoth() {
        check.about("PARK: a PERMIT and INTERRUPTED");
        make(STRICT, does(INTERRUPT, 0, UNPARK, 0, PARK, 0));
        step(0, 0);
        state(0, RUNNING + INTERRUPTED + PERMIT);
        step(0);
        state(0, ENDED + INTERRUPTED);
    }

    private void parkWithNeither() {
        check.about("PARK: else it is PARKED");
        make(STRICT, does(PARK, Integer.MIN_VALUE, MARK, 0));
        step(0);
        state(0, PARKED);
        letters(0);
        allows(0);
        choose(0, 0, 0);
        state(0, PARKED);
    }

    private void unparkEnded() {
        check.about("UNPARK: thread a, if it has not ENDED, has a PERMIT");
        make(STRICT, does(UNPARK, 1, UNPARK, 2, UNPARK, 3, UNPARK, 0), does(MARK, 0), does(MARK, 0));
        step(1, 0, 0, 0);
        state(1, ENDED);
        state(2, RUNNING + PERMIT);
        state(3, ENDED);
        step(0);
        state(0, ENDED + PERMIT);
        step(2);
        state(2, ENDED + PERMIT);
        check.about("UNPARK: one that waits, returns");
        make(STRICT, does(UNPARK, 1, UNPARK, 2), does(ENTER, 0, WAIT, 0), does(ENTER, 1, WAIT_WITH_TIME, 1));
        step(1, 1, 2, 2);
        choose(2, 3, 1);
        step(0, 0);
        state(1, IN_SET + PERMIT);
        state(2, RETURNING + PERMIT);
        allows(1);
    }

    private void unparkParked() {
        check.about("UNPARK: is it PARKED, it is RUNNING, and has no PERMIT");
        make(STRICT, does(PARK, 0, PARK, 0), does(UNPARK, 0));
        step(0, 1);
        state(0, RUNNING);
        letters(0);
        step(0);
        state(0, PARKED);
    }

    private void unparkTwice() {
        check.about("UNPARK: twice is no more than once");
        make(STRICT, does(PARK, 0, PARK, 0), does(UNPARK, 0, UNPARK, 0));
        step(1, 1);
        state(0, RUNNING + PERMIT);
        step(0);
        state(0, RUNNING);
        step(0);
        state(0, PARKED);
    }

    private void joinEndedOrNot() {
        check.about("JOIN: thread a has ENDED: done; else not allowed");
        make(STRICT, does(JOIN, 1), does(MARK, 0, MARK, 1), does(JOIN, 3, JOIN, 0), does());
        allows(2, 0);
        step(2);
        letters(2);
        allows(2);
        allows(0);
        step(1);
        allows(0);
        choose(0, 0, 0);
        step(1);
        allows(0, 0);
        step(0);
        letters(0);
        state(0, ENDED);
        step(2);
        state(2, ENDED);
        check.about("JOIN: one that waits, returns, is parked has not ENDED");
        make(STRICT, does(PARK, 0), does(ENTER, 0, WAIT_WITH_TIME, 0), does(JOIN, 0), does(JOIN, 1));
        step(0, 1, 1);
        allows(2);
        allows(3);
        choose(1, 3, 1);
        allows(3);
        step(1);
        allows(3, 0);
    }

    private void joinItself() {
        check.about("JOIN: else not allowed (of itself, too)");
        for (int t = 0; t < 4; t++) {
            x = new MonitorWays(LOOSE);
            check.due("act", x.act(t, JOIN, t), 1);
            allows(t);
            choose(t, 0, 0);
            state(t, RUNNING);
            check.due("count(0)", x.count(0), 0);
        }
    }

    private void joinInterrupted() {
        check.about("JOIN: it is INTERRUPTED: that is no more, BROKEN OFF");
        make(STRICT, does(INTERRUPT, 0, JOIN, 1, JOIN, 1), does(PARK, 0));
        step(0);
        allows(0, 0);
        step(0);
        letters(0, BROKEN_OFF);
        state(0, RUNNING);
        allows(0);
        check.about("JOIN: INTERRUPTED, of one that has ENDED and of itself");
        make(STRICT, does(INTERRUPT, 0, JOIN, 3, JOIN, 3, INTERRUPT, 0, JOIN, 0));
        step(0, 0);
        letters(0, BROKEN_OFF);
        step(0);
        letters(0, BROKEN_OFF);
        step(0, 0);
        letters(0, BROKEN_OFF, BROKEN_OFF);
        state(0, ENDED);
    }

    private void sleepBothWays() {
        check.about("SLEEP: it is INTERRUPTED: that is no more, and BROKEN OFF; else done");
        make(STRICT, does(SLEEP, 0, INTERRUPT, 0, SLEEP, 0, SLEEP, 0));
        step(0);
        letters(0);
        step(0, 0);
        letters(0, BROKEN_OFF);
        state(0, RUNNING);
        step(0);
        letters(0, BROKEN_OFF);
        state(0, ENDED);
    }

    private void askBothWays() {
        check.about("ASK: YES if it is INTERRUPTED, which is no more, else NO");
        make(STRICT, does(ASK, 0, INTERRUPT, 0, ASK, 0, ASK, 0));
        step(0, 0, 0);
        letters(0, NO, YES);
        state(0, RUNNING);
        step(0);
        letters(0, NO, YES, NO);
    }

    private void endsAfterLastAction() {
        check.about("After MISUSE, BROKEN OFF and whatever is done, it stands at the next action, and has ENDED if there is none");
        int[][] lasts = {
            does(ENTER, 0), does(LEAVE, 0), does(WAIT, 0), does(WAIT_WITH_TIME, 0), does(NOTIFY, 0), does(NOTIFY_ALL, 0), does(INTERRUPT, 3),
            does(UNPARK, 3), does(JOIN, 3), does(SLEEP, 0), does(MARK, 0), does(ASK, 0)
        };
        for (int[] last : lasts) {
            make(STRICT, last);
            step(0);
            state(0, ENDED);
            make(STRICT, does(last[0], last[1], MARK, 3));
            step(0);
            state(0, RUNNING);
            step(0);
            state(0, ENDED);
            boolean quiet = last[0] == ENTER || last[0] == INTERRUPT || last[0] == UNPARK || last[0] == JOIN || last[0] == SLEEP;
            check.due("the MARK after " + last[0], x.letter(0, quiet ? 0 : 1), 11);
        }
        check.about("has ENDED after the last action BROKEN OFF");
        make(STRICT, does(INTERRUPT, 0, SLEEP, 0), does(INTERRUPT, 1, JOIN, 0), does(ENTER, 0, INTERRUPT, 2, WAIT, 0));
        step(0, 0, 1, 1, 2, 2, 2);
        for (int t = 0; t < 3; t++) {
            state(t, ENDED);
            letters(t, BROKEN_OFF);
        }
    }

    private void endsAfterLastWaitOrPark() {
        check.about("a thread that is WAITING or PARKED stands there when it runs again");
        make(LOOSE, does(ENTER, 0, WAIT_WITH_TIME, 0), does(PARK, 0), does(PARK, 0), does(UNPARK, 2));
        step(0, 0, 1, 2);
        state(0, IN_SET);
        state(1, PARKED);
        choose(0, 3, 1);
        state(0, RETURNING);
        step(0);
        state(0, ENDED);
        choose(1, 3, 1);
        state(1, ENDED);
        step(3);
        state(2, ENDED);
        make(STRICT, does(ENTER, 0, WAIT_WITH_TIME, 0, MARK, 1), does(PARK, 0, MARK, 2), does(INTERRUPT, 1));
        step(0, 0, 1, 2);
        choose(0, 3, 1);
        step(0);
        state(0, RUNNING);
        choose(1, 1, 1);
        state(1, RUNNING + INTERRUPTED);
        step(0, 1);
        letters(0, TIMED_OUT, 9);
        letters(1, 10);
    }

    private void timeOnlyWithTime() {
        check.about("a thread in a set, way 3: only if it WAITS with a time: TIMED OUT");
        make(LOOSE, does(ENTER, 0, WAIT, 0), does(ENTER, 0, WAIT_WITH_TIME, 0));
        step(0, 0, 1, 1);
        check.due("allowed(0, 3)", x.allowed(0, 3), false);
        choose(0, 3, 0);
        set(0, 0, 1);
        check.due("allowed(1, 3)", x.allowed(1, 3), true);
        choose(1, 3, 1);
        set(0, 0);
        letters(1, TIMED_OUT);
        state(1, RETURNING);
    }

    private void brokenOffOnlyInterrupted() {
        check.about("a thread in a set: it is INTERRUPTED, way 1: it leaves the set, is not INTERRUPTED any more: BROKEN OFF");
        make(STRICT, does(ENTER, 0, WAIT, 0), does(ENTER, 0, WAIT_WITH_TIME, 0), does(INTERRUPT, 0, INTERRUPT, 1));
        step(0, 0, 1, 1);
        allows(0);
        allows(1, 3);
        choose(0, 1, 0);
        choose(1, 1, 0);
        step(2, 2);
        allows(0, 1);
        allows(1, 1, 3);
        choose(1, 1, 1);
        state(1, RETURNING);
        letters(1, BROKEN_OFF);
        set(0, 0);
        choose(0, 1, 1);
        state(0, RETURNING);
        letters(0, BROKEN_OFF);
        set(0);
    }

    private void letterAtLeaving() {
        check.about("These letters, and NOTIFIED, are put into its RESULT when it leaves the set; it is then RETURNING");
        make(STRICT, does(ENTER, 0, WAIT, 0), does(ENTER, 0, WAIT_WITH_TIME, 0), does(ENTER, 0, WAIT, 0), does(INTERRUPT, 0, ENTER, 0, NOTIFY, 0, PARK, 0));
        step(0, 0, 1, 1, 2, 2, 3, 3);
        letters(0);
        letters(1);
        letters(2);
        choose(3, 2, 1);
        choose(0, 1, 1);
        choose(1, 3, 1);
        // The notifier still owns the monitor.
        monitor(0, 3, 1);
        letters(0, BROKEN_OFF);
        letters(1, TIMED_OUT);
        letters(2, NOTIFIED);
        for (int t = 0; t < 3; t++) {
            state(t, RETURNING);
            allows(t);
        }
    }

    private void interruptStaysBesideOtherLetters() {
        check.about("a thread in a set that is INTERRUPTED, and leaves it NOTIFIED or TIMED OUT, is still INTERRUPTED");
        int[] waiter = does(ENTER, 0, WAIT_WITH_TIME, 0, ASK, 0);
        for (int action : new int[] {NOTIFY, NOTIFY_ALL}) {
            make(STRICT, waiter, waiter, does(ENTER, 0, INTERRUPT, 0, INTERRUPT, 1, action, 0, LEAVE, 0));
            step(0, 0, 1, 1, 2, 2, 2);
            choose(1, 3, 1);
            state(1, RETURNING + INTERRUPTED);
            letters(1, TIMED_OUT);
            choose(2, action == NOTIFY ? 1 : 0, 1);
            state(0, RETURNING + INTERRUPTED);
            letters(0, NOTIFIED);
            step(2, 0, 0);
            letters(0, NOTIFIED, YES);
            state(0, ENDED);
        }
    }

    private void returnsOnlyWhenFree() {
        check.about("a RETURNING thread, way 0: its monitor has no owner: it owns it with the count that was kept, and is RUNNING");
        make(STRICT, does(ENTER, 0, ENTER, 0, WAIT_WITH_TIME, 0, LEAVE, 0, LEAVE, 0, LEAVE, 0), does(ENTER, 0, ENTER, 0, LEAVE, 0, LEAVE, 0), does(ENTER, 1));
        step(0, 0, 0, 2);
        choose(0, 3, 1);
        allows(0, 0);
        step(1);
        allows(0);
        choose(0, 0, 0);
        step(1, 1);
        allows(0);
        step(1);
        allows(0, 0);
        step(0);
        monitor(0, 0, 2);
        state(0, RUNNING);
        step(0);
        monitor(0, 0, 1);
        step(0);
        monitor(0, REFUSED, 0);
        letters(0, TIMED_OUT);
        step(0);
        letters(0, TIMED_OUT, MISUSE);
    }

    private void returningHasOneWay() {
        check.about("a RETURNING thread has no way but 0");
        make(LOOSE, does(ENTER, 0, WAIT_WITH_TIME, 0, ASK, 0), does(ENTER, 0, NOTIFY, 0, INTERRUPT, 0, LEAVE, 0));
        step(0, 0, 1);
        choose(1, 1, 1);
        step(1);
        state(0, RETURNING + INTERRUPTED);
        for (int way = 0; way < 4; way++) {
            choose(0, way, 0);
        }
        step(1);
        allows(0, 0);
        choose(0, 1, 0);
        choose(0, 2, 0);
        choose(0, 3, 0);
        letters(0, NOTIFIED);
        step(0, 0);
        letters(0, NOTIFIED, YES);
    }

    private void parkedByInterruptOnly() {
        check.about("a PARKED thread, way 1: it is INTERRUPTED (which stays): it is RUNNING");
        make(STRICT, does(PARK, 0, ASK, 0), does(INTERRUPT, 0));
        step(0);
        allows(0);
        choose(0, 1, 0);
        step(1);
        allows(0, 1);
        choose(0, 1, 1);
        state(0, RUNNING + INTERRUPTED);
        letters(0);
        step(0);
        letters(0, YES);
    }

    private void parkedHasNoOtherWay() {
        check.about("a PARKED thread has no way 0 or 2");
        make(LOOSE, does(PARK, 0, MARK, 0), does(INTERRUPT, 0));
        step(0);
        allows(0, 3);
        step(1);
        allows(0, 1, 3);
        choose(0, 0, 0);
        choose(0, 2, 0);
        state(0, PARKED + INTERRUPTED);
    }

    private void straysOnlyIfLoose() {
        check.about("allowed only if the machine is LOOSE");
        int[] waits = does(ENTER, 0, WAIT, 0);
        int[] parks = does(PARK, 0);
        make(STRICT, waits, parks);
        step(0, 0, 1);
        choose(0, 2, 0);
        choose(1, 3, 0);
        allows(0);
        allows(1);
        make(LOOSE, waits, parks);
        step(0, 0, 1);
        allows(0, 2);
        allows(1, 3);
    }

    private void straysFromSetOnce() {
        check.about("in a set, way 2: it leaves the set for no reason, without a letter; at most once");
        make(LOOSE, does(ENTER, 0, ENTER, 0, WAIT, 0, WAIT, 0), does(ENTER, 0, WAIT_WITH_TIME, 0, WAIT_WITH_TIME, 0));
        step(0, 0, 0, 1, 1);
        allows(1, 2, 3);
        choose(0, 2, 1);
        state(0, RETURNING);
        letters(0);
        set(0, 1);
        step(0);
        monitor(0, 0, 2);
        step(0);
        set(0, 1, 0);
        allows(0);
        choose(0, 2, 0);
        choose(1, 2, 1);
        letters(1);
        step(1, 1);
        allows(1, 3);
    }

    private void straysFromParkOnce() {
        check.about("PARKED, way 3: it is RUNNING, for no reason; at most once");
        make(LOOSE, does(PARK, 0, PARK, 0, MARK, 0));
        step(0);
        choose(0, 3, 1);
        state(0, RUNNING);
        letters(0);
        step(0);
        allows(0);
        choose(0, 3, 0);
        state(0, PARKED);
    }

    private void strayedIsOneForBoth() {
        check.about("Each thread does such a thing (PARKED by way 3, in a set by way 2) at most once");
        make(LOOSE, does(PARK, 0, ENTER, 0, WAIT, 0), does(ENTER, 0, WAIT, 0, PARK, 0));
        step(0);
        choose(0, 3, 1);
        step(0, 0);
        state(0, IN_SET);
        allows(0);
        step(1, 1);
        choose(1, 2, 1);
        step(1, 1);
        state(1, PARKED);
        allows(1);
    }

    private void strayedIsEachThreadsOwn() {
        check.about("Each thread at most once: not all of them together");
        int[] parks = does(PARK, 0);
        make(LOOSE, parks, parks, parks, parks);
        step(0, 1, 2, 3);
        for (int t = 0; t < 4; t++) {
            allows(t, 3);
            choose(t, 3, 1);
            state(t, ENDED);
        }
    }

    private void otherLeavingIsNoStraying() {
        check.about("a time, a notify, an interrupt and an unpark use up nothing of it");
        make(LOOSE, does(ENTER, 0, WAIT_WITH_TIME, 0, WAIT, 0, WAIT, 0, PARK, 0, PARK, 0), does(INTERRUPT, 0, UNPARK, 0), does(ENTER, 0, NOTIFY, 0, LEAVE, 0));
        step(0, 0);
        choose(0, 3, 1);
        step(0, 0, 1);
        choose(0, 1, 1);
        step(0, 0, 2);
        choose(2, 1, 1);
        step(2, 0, 0);
        state(0, PARKED);
        step(1, 0);
        state(0, PARKED);
        allows(0, 3);
        letters(0, TIMED_OUT, BROKEN_OFF, NOTIFIED);
    }

    private void strayingLeavesInterrupts() {
        check.about("for no reason: INTERRUPTED and a PERMIT stay");
        make(LOOSE, does(ENTER, 0, WAIT, 0, ASK, 0), does(PARK, 0, ASK, 0), does(INTERRUPT, 0, UNPARK, 0, INTERRUPT, 1));
        step(0, 0, 1, 2, 2, 2);
        allows(0, 1, 2);
        allows(1, 1, 3);
        choose(0, 2, 1);
        state(0, RETURNING + INTERRUPTED + PERMIT);
        choose(1, 3, 1);
        state(1, RUNNING + INTERRUPTED);
        step(0, 0, 1);
        letters(0, YES);
        letters(1, YES);
    }

    private void straysFromOwnedMonitor() {
        check.about("in a set, way 2: whoever owns the monitor");
        make(LOOSE, does(ENTER, 0, WAIT, 0), does(ENTER, 0, ENTER, 0, LEAVE, 0, LEAVE, 0));
        step(0, 0, 1, 1);
        choose(0, 2, 1);
        state(0, RETURNING);
        monitor(0, 1, 2);
        allows(0);
        step(1);
        allows(0);
        step(1);
        allows(0, 0);
    }

    private void keepsMonitorsAtEnd() {
        check.about("A thread whose monitors are not left when it ENDS keeps them");
        make(STRICT, does(ENTER, 0, ENTER, 0, ENTER, 1), does(ENTER, 0), does(ENTER, 1, WAIT_WITH_TIME, 1));
        step(2, 2);
        choose(2, 3, 1);
        step(0, 0, 0);
        state(0, ENDED);
        monitor(0, 0, 2);
        monitor(1, 0, 1);
        allows(1);
        allows(2);
        state(2, RETURNING);
    }

    private void finalAndBlocked() {
        check.about("A state is FINAL if no CHOICE is allowed. A thread that has not ENDED in it is BLOCKED");
        make(STRICT, does(ENTER, 0), does(ENTER, 0, WAIT_WITH_TIME, 0), does(PARK, 0), does(JOIN, 3));
        // 0 owns for ever and 1 is at ENTER, or 1 is RETURNING; or 1 came back in time, and 0 is at ENTER.
        check.due("explore()", x.explore(), 3);
        outcomes(outcome(part(6), part(7), part(7), part(7)), outcome(part(6), part(TIMED_OUT, 7), part(7), part(7)),
            outcome(part(7), part(TIMED_OUT, 6), part(7), part(7)));
        blocks(true, true, true, true);
        make(STRICT, does(ENTER, 0), does(PARK, 0), does(ENTER, 1, WAIT, 1), does(JOIN, 3));
        check.due("explore()", x.explore(), 1);
        blocks(false, true, true, true);
        outcomes(outcome(part(6), part(7), part(7), part(7)));
        check.due("count(2)", x.count(2), 1);
        check.due("count(3)", x.count(3), 0);
    }
}
