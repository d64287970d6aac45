/** Promises 11 to 14: what is found by going through all ways. */
public final class ExploreTest extends Scene {
    // Each stands at monitor m alone: 2 + 3 * waits + marks states, for it never meets another thread.
    private static final int[] FIFTEEN = does(ENTER, 0, WAIT_WITH_TIME, 0, WAIT_WITH_TIME, 0, WAIT_WITH_TIME, 0, WAIT_WITH_TIME, 0, MARK, 0);
    private static final int[] TEN = does(ENTER, 1, WAIT_WITH_TIME, 1, WAIT_WITH_TIME, 1, MARK, 0, MARK, 1);
    private static final int[] FIVE = does(MARK, 0, MARK, 0, MARK, 0, MARK, 0);
    private static final int[] FOUR = does(MARK, 0, MARK, 0, MARK, 0);

    public static void main(String[] args) {
        ExploreTest test = new ExploreTest();
        test.nothingToDo();
        test.outcomesAreNumbersThatWrap();
        test.presentStateStays();
        test.sameStatesCountOnce();
        test.allOfAStateIsKept();
        test.orderInSetsTellsStatesApart();
        test.straysAreExplored();
        test.choicesAreCounted();
        test.blockedOnes();
        test.justEnoughStates();
        test.oneStateTooMany();
        test.answersAgain();
        test.numbersOutOfRange();
        test.check.end();
    }

    private void nothingToDo() {
        check.about("promise 11, nothing to do");
        make(STRICT);
        counts(0, 0, 0, 0);
        check.due("explore()", x.explore(), 1);
        counts(1, 1, 1, 0);
        outcomes(outcome(18, 18, 18, 18));
        blocks(false, false, false, false);
    }

    private void outcomesAreNumbersThatWrap() {
        check.about("promise 12, the number");
        make(STRICT, does(LEAVE, 0, MARK, 3), does(PARK, 0), does(ASK, 0));
        check.due("explore()", x.explore(), 1);
        outcomes(outcome(((12 + 0) * 12 + 11) * 12 + 6, 12 + 7, (12 + 5) * 12 + 6, 18));
        check.about("promise 12, less than nothing");
        int[] marks = does(MARK, 3, MARK, 3, MARK, 3, MARK, 3, MARK, 3);
        make(STRICT, marks);
        check.due("explore()", x.explore(), 1);
        long wrapped = outcome(part(11, 11, 11, 11, 11, 6), 18, 18, 18);
        outcomes(wrapped);
        check.about("promise 12, the least first");
        make(STRICT, does(ASK, 0, MARK, 0, MARK, 0, MARK, 0, MARK, 0), does(INTERRUPT, 0, INTERRUPT, 0));
        check.due("explore()", x.explore(), 2);
        long yes = outcome(part(YES, 8, 8, 8, 8, 6), 18, 18, 18);
        long no = outcome(part(NO, 8, 8, 8, 8, 6), 18, 18, 18);
        check.due("one is negative, the other not", (yes < 0) != (no < 0), true);
        outcomes(Math.min(yes, no), Math.max(yes, no));
    }

    private void presentStateStays() {
        check.about("promise 11, the present state stays");
        make(STRICT, does(ENTER, 0, WAIT, 0, MARK, 0), does(ENTER, 0, NOTIFY, 0, LEAVE, 0, UNPARK, 2), does(PARK, 0));
        step(2, 0, 0, 1);
        check.due("explore()", x.explore(), 2);
        check.due("count(0)", x.count(0), 4);
        state(0, IN_SET);
        state(1, RUNNING);
        state(2, PARKED);
        set(0, 0);
        monitor(0, 1, 1);
        choose(1, 2, 1);
        letters(0, NOTIFIED);
        check.about("promise 11, from the first state");
        make(STRICT, does(MARK, 0, MARK, 1));
        step(0, 0);
        check.due("explore()", x.explore(), 1);
        counts(3, 1, 1, 1);
        letters(0, 8, 9);
    }

    private void sameStatesCountOnce() {
        check.about("promise 14, the same states");
        make(STRICT, does(MARK, 0, MARK, 0), does(MARK, 0, MARK, 0), does(MARK, 0), does(SLEEP, 0));
        check.due("explore()", x.explore(), 1);
        counts(3 * 3 * 2 * 2, 1, 1, 4);
        check.about("promise 14, the first and the last of one that waits");
        make(STRICT, does(ENTER, 0, WAIT, 0), does(ENTER, 0, NOTIFY, 0));
        check.due("explore()", x.explore(), 2);
        // 0 waits first: both at ENTER, 0 owns, 0 waits, 1 owns, 1 has ended; 1 owns first: owns, ended.
        counts(7, 2, 0, 2);
        outcomes(outcome(part(7), part(6), 18, 18), outcome(part(NOTIFIED, 7), part(6), 18, 18));
        check.about("promise 14, the rows of two threads");
        make(STRICT, does(ENTER, 0, WAIT_WITH_TIME, 0, LEAVE, 0, MARK, 0), does(INTERRUPT, 2), does(SLEEP, 0));
        check.due("explore()", x.explore(), 2);
        // Thread 0 alone has 7; of threads 1 and 2: none, the interrupt, the sleep, and both in either order.
        counts(7 * 5, 2, 2, 3);
        check.about("promise 14, what was kept is no more");
        make(STRICT, does(ENTER, 0, WAIT, 0), does(INTERRUPT, 0));
        check.due("explore()", x.explore(), 1);
        // Broken off before the wait or in the set, it ends in the same state.
        counts(8, 1, 1, 2);
        outcomes(outcome(part(BROKEN_OFF, 6), 18, 18, 18));
    }

    private void allOfAStateIsKept() {
        check.about("promise 11, counts of monitors");
        make(STRICT, does(ENTER, 0, ENTER, 0, LEAVE, 0, MARK, 0, LEAVE, 0, LEAVE, 0));
        check.due("explore()", x.explore(), 1);
        outcomes(outcome(part(8, MISUSE, 6), 18, 18, 18));
        check.about("promise 11, counts that are kept");
        make(STRICT, does(ENTER, 1, ENTER, 1, ENTER, 1, WAIT_WITH_TIME, 1, LEAVE, 1, LEAVE, 1));
        check.due("explore()", x.explore(), 1);
        counts(9, 1, 1, 1);
        outcomes(outcome(part(TIMED_OUT, 6), 18, 18, 18));
        check.about("promise 11, six letters each");
        make(STRICT, does(MARK, 3, MARK, 3, MARK, 3, MARK, 3, MARK, 3, MARK, 3), does(), does(), does(ASK, 0, LEAVE, 0, MARK, 3, MARK, 2, MARK, 1, MARK, 0));
        check.due("explore()", x.explore(), 1);
        counts(7 * 7, 1, 1, 2);
        outcomes(outcome(part(11, 11, 11, 11, 11, 11, 6), 18, 18, part(NO, MISUSE, 11, 10, 9, 8, 6)));
        check.about("promise 11, the last threads in a set");
        make(STRICT, does(ENTER, 0, NOTIFY, 0), does(), does(), does(ENTER, 0, WAIT, 0));
        check.due("explore()", x.explore(), 2);
        counts(7, 2, 0, 2);
        outcomes(outcome(part(6), 18, 18, part(7)), outcome(part(6), 18, 18, part(NOTIFIED, 7)));
        check.about("promise 11, permits and interrupts that nobody took");
        make(STRICT, does(UNPARK, 1, INTERRUPT, 1), does(MARK, 0));
        check.due("explore()", x.explore(), 1);
        // Before 1 ended: none, the permit, both; and 1 ended with each of these, or 0 went on without effect.
        counts(9, 3, 3, 2);
    }

    private void orderInSetsTellsStatesApart() {
        check.about("promise 14, the order in a set");
        make(STRICT, does(ENTER, 0, WAIT, 0), does(ENTER, 0, WAIT, 0));
        check.due("explore()", x.explore(), 1);
        // None; 0 owns, 0 waits, 1 owns too, both wait; and the same with 1 first.
        counts(1 + 2 * 4, 2, 0, 2);
        blocks(true, true, false, false);
    }

    private void straysAreExplored() {
        check.about("promise 11, LOOSE");
        int[] parks = does(PARK, 0, PARK, 0);
        make(STRICT, parks);
        check.due("explore()", x.explore(), 1);
        counts(2, 1, 0, 1);
        make(LOOSE, parks);
        check.due("explore()", x.explore(), 1);
        counts(4, 1, 0, 1);
        blocks(true, false, false, false);
        int[] waits = does(ENTER, 0, WAIT_WITH_TIME, 0);
        make(STRICT, waits);
        check.due("explore()", x.explore(), 1);
        counts(5, 1, 1, 1);
        make(LOOSE, waits);
        check.due("explore()", x.explore(), 2);
        counts(7, 2, 2, 2);
        outcomes(outcome(part(6), 18, 18, 18), outcome(part(TIMED_OUT, 6), 18, 18, 18));
        check.about("promise 14, what was done once tells states apart");
        make(LOOSE, does(PARK, 0), does(UNPARK, 0));
        check.due("explore()", x.explore(), 1);
        // At first, 0 parked, 0 strayed, 1 done before (permit), after the parking, after the straying; 0 done with the permit.
        check.due("count(1)", x.count(1), 6);
        check.due("count(2)", x.count(2), 2);
    }

    private void choicesAreCounted() {
        check.about("promise 14, the most choices");
        int[] waits = does(ENTER, 0, WAIT_WITH_TIME, 0);
        make(LOOSE, waits, does(INTERRUPT, 0, ENTER, 0, NOTIFY, 0, PARK, 0));
        check.due("explore()", x.explore() > 0, true);
        // 0 in the set with a time and INTERRUPTED: three ways; 1 may notify it by two.
        check.due("count(4)", x.count(4), 5);
        make(STRICT, does(JOIN, 0));
        check.due("explore()", x.explore(), 1);
        counts(1, 1, 0, 0);
    }

    private void blockedOnes() {
        check.about("promise 13");
        make(STRICT, does(ENTER, 0, ENTER, 1, LEAVE, 1, LEAVE, 0), does(ENTER, 1, ENTER, 0, LEAVE, 0, LEAVE, 1), does(MARK, 1), does(JOIN, 0));
        blocks(false, false, false, false);
        check.due("explore()", x.explore(), 2);
        blocks(true, true, false, true);
        check.due("count(2)", x.count(2), 2);
        check.due("count(3)", x.count(3), 1);
        long fine = outcome(part(6), part(6), part(9, 6), part(6));
        long locked = outcome(part(7), part(7), part(9, 6), part(7));
        outcomes(fine, locked);
        check.due("reset()", x.reset(), 0);
        blocks(true, true, false, true);
        check.due("act", x.act(2, MARK, 0), 2);
        blocks(false, false, false, false);
    }

    private void justEnoughStates() {
        check.about("promise 11, 3000 states");
        make(STRICT, FIFTEEN, TEN, FIVE, FOUR);
        check.due("explore()", x.explore(), 1);
        counts(3000, 1, 1, 4);
        outcomes(outcome(part(3, 3, 3, 3, 8, 6), part(3, 3, 8, 9, 6), part(8, 8, 8, 8, 6), part(8, 8, 8, 6)));
        check.about("promise 11, far too many");
        check.due("act", x.act(3, MARK, 0), 4);
        check.due("explore()", x.explore(), FULL);
        nothingFound();
    }

    private void oneStateTooMany() {
        check.about("promise 11, 3001 states");
        int[][] programs = {
            does(ENTER, 0, ENTER, 0, WAIT, 0, UNPARK, 2),
            does(UNPARK, 3, PARK, 1),
            does(ENTER, 0, INTERRUPT, 1, UNPARK, 3, WAIT, 0, WAIT, 1),
            does(PARK, 1, WAIT_WITH_TIME, 1, LEAVE, 1, UNPARK, 3, INTERRUPT, 1, NOTIFY_ALL, 0)
        };
        PlainModel model = new PlainModel(LOOSE);
        for (int t = 0; t < 4; t++) {
            for (int i = 0; i < programs[t].length; i += 2) {
                model.act(t, programs[t][i], programs[t][i + 1]);
            }
        }
        model.explore(3001);
        check.due("the plain model's states", model.found.states, 3001);
        make(LOOSE, programs);
        step(0, 0);
        check.due("explore()", x.explore(), FULL);
        nothingFound();
        check.due("count(0)", x.count(0), 2);
        monitor(0, 0, 2);
    }

    private void nothingFound() {
        counts(0, 0, 0, 0);
        outcomes();
        blocks(false, false, false, false);
    }

    private void answersAgain() {
        check.about("promise 11, again");
        make(STRICT, does(ASK, 0), does(INTERRUPT, 0), does(PARK, 0));
        for (int i = 0; i < 3; i++) {
            check.due("explore()", x.explore(), 2);
            check.due("count(2)", x.count(2), 2);
            outcomes(outcome(part(YES, 6), 18, 19, 18), outcome(part(NO, 6), 18, 19, 18));
            blocks(false, false, true, false);
        }
        check.about("promise 11, again when FULL");
        make(STRICT, FIFTEEN, TEN, FIVE, FIVE);
        check.due("explore()", x.explore(), FULL);
        check.due("explore()", x.explore(), FULL);
        nothingFound();
        check.about("promise 11, after more actions");
        make(STRICT);
        check.due("explore()", x.explore(), 1);
        check.due("act", x.act(1, JOIN, 1), 1);
        check.due("explore()", x.explore(), 1);
        outcomes(outcome(18, 19, 18, 18));
        blocks(false, true, false, false);
        check.due("act", x.act(2, INTERRUPT, 1), 1);
        check.due("explore()", x.explore(), 1);
        outcomes(outcome(18, part(BROKEN_OFF, 6), 18, 18));
        blocks(false, false, false, false);
    }

    private void numbersOutOfRange() {
        check.about("promises 12 to 14, out of range");
        make(STRICT, does(PARK, 0), does(PARK, 0), does(PARK, 0), does(PARK, 0));
        check.due("explore()", x.explore(), 1);
        blocks(true, true, true, true);
        for (int bad : new int[] {-1, 5, 6, Integer.MIN_VALUE, Integer.MAX_VALUE}) {
            check.due("outcome(" + bad + ")", x.outcome(bad), MonitorWays.NONE);
            check.due("mayBlock(" + bad + ")", x.mayBlock(bad), false);
            check.due("count(" + bad + ")", x.count(bad), REFUSED);
        }
        check.due("mayBlock(4)", x.mayBlock(4), false);
        check.due("outcome(1)", x.outcome(1), MonitorWays.NONE);
    }
}
