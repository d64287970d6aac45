import java.math.BigInteger;
import java.util.Arrays;

/** The sentences of promises 11 to 14, and of THE OUTCOME, that name an edge, each with a test of its own. */
public final class FoundEdgesTest extends Scene {
    private static final int LEAST = Integer.MIN_VALUE;
    private static final int MOST = Integer.MAX_VALUE;
    // Alone at a monitor that no other uses, ENTER and each MARK make one state more, each WAIT with a time three.
    private static final int[] FIFTEEN = does(ENTER, 0, WAIT_WITH_TIME, 0, WAIT_WITH_TIME, 0, WAIT_WITH_TIME, 0, WAIT_WITH_TIME, 0, MARK, 0);
    private static final int[] TEN = does(ENTER, 1, WAIT_WITH_TIME, 1, WAIT_WITH_TIME, 1, MARK, 0, MARK, 1);
    private static final int[] FIVE = does(MARK, 0, MARK, 0, MARK, 0, MARK, 0);
    private static final int[] FOUR = does(MARK, 0, MARK, 0, MARK, 0);

    public static void main(String[] args) {
        FoundEdgesTest test = new FoundEdgesTest();
        test.outcomeNumbers();
        test.exploring();
        test.limit();
        test.answers();
        test.check.end();
    }

    private void outcomeNumbers() {
        noLetters();
        lettersFromNoneToSix();
        misuseAtTheFront();
        blockedAndEnded();
        eachThreadsPlace();
        numbersThatWrap();
    }

    private void exploring() {
        nothingToDo();
        nothingCanBeDone();
        fromTheFirstState();
        presentStateStays();
        sameOutcomeCountsOnce();
        resultsTellApart();
        flagsTellApart();
        setsTellApart();
        keptCounts();
        doneOnceTellsApart();
        exploreAgain();
        exploreAfterAct();
    }

    private void limit() {
        justEnough();
        oneTooMany();
        farTooMany();
        nothingIsFoundWhenFull();
        foundAgainAfterFull();
    }

    private void answers() {
        outcomeEdges();
        outcomeLeastFirst();
        outcomeBefore();
        mayBlockEdges();
        mayBlockBefore();
        countOfChoices();
        countBefore();
        countOfStates();
        countOfMostChoices();
        countElse();
    }

    private void noLetters() {
        check.about("with a 1 before them, and at last a 6: no LETTERS");
        make(STRICT);
        check.due("explore()", x.explore(), 1);
        outcomes(wrapped(1 * 12 + 6, 1 * 12 + 6, 1 * 12 + 6, 1 * 12 + 6));
        check.due("outcome(0)", x.outcome(0), 2067688465219152L);
    }

    private void lettersFromNoneToSix() {
        check.about("its LETTERS as digits in base 12, the first one the highest");
        int[] marks = {0, 3, 1, 2, 3, 0};
        for (int t = 0; t < 4; t++) {
            x = new MonitorWays(STRICT);
            long digits = 1;
            for (int i = 0; i < 6; i++) {
                check.due("act", x.act(t, MARK, marks[i]), i + 1);
                digits = digits * 12 + 8 + marks[i];
                long[] numbers = {18, 18, 18, 18};
                numbers[t] = digits * 12 + 6;
                check.due("explore()", x.explore(), 1);
                outcomes(wrapped(numbers[0], numbers[1], numbers[2], numbers[3]));
            }
        }
    }

    private void misuseAtTheFront() {
        check.about("with a 1 before them: a MISUSE at the front is not lost");
        make(STRICT, does(LEAVE, 0, LEAVE, 0, ASK, 0));
        check.due("explore()", x.explore(), 1);
        outcomes(wrapped((((1 * 12 + 0) * 12 + 0) * 12 + 5) * 12 + 6, 18, 18, 18));
        make(STRICT, does(LEAVE, 0, LEAVE, 0, LEAVE, 0, LEAVE, 0, LEAVE, 0, LEAVE, 0));
        check.due("explore()", x.explore(), 1);
        outcomes(wrapped(12 * 12 * 12 * 12 * 12 * 12 * 12 + 6, 18, 18, 18));
    }

    private void blockedAndEnded() {
        check.about("a 7 if it is BLOCKED, a 6 if it has ENDED");
        int[] parks = does(PARK, 0);
        for (int t = 0; t < 4; t++) {
            x = new MonitorWays(STRICT);
            check.due("act", x.act(t, PARK, 0), 1);
            check.due("explore()", x.explore(), 1);
            outcomes(wrapped(t == 0 ? 19 : 18, t == 1 ? 19 : 18, t == 2 ? 19 : 18, t == 3 ? 19 : 18));
        }
        make(STRICT, parks, parks, parks, parks);
        check.due("explore()", x.explore(), 1);
        outcomes(wrapped(19, 19, 19, 19));
    }

    private void eachThreadsPlace() {
        check.about("((n0 * 48611 + n1) * 48611 + n2) * 48611 + n3");
        make(STRICT, does(ASK, 0), does(LEAVE, 0), does(MARK, 0), does(MARK, 3));
        check.due("explore()", x.explore(), 1);
        outcomes(wrapped(part(5, 6), part(0, 6), part(8, 6), part(11, 6)));
    }

    private void numbersThatWrap() {
        check.about("in longs that wrap");
        int[] most = does(MARK, 3, MARK, 3, MARK, 3, MARK, 3, MARK, 3, MARK, 3);
        make(STRICT, does(MARK, 3, MARK, 3, MARK, 3));
        check.due("explore()", x.explore(), 1);
        check.due("three letters do not wrap", x.outcome(0) > 0, true);
        outcomes(wrapped(part(11, 11, 11, 6), 18, 18, 18));
        int below = 0;
        for (int length = 4; length <= 6; length++) {
            for (int mark = 0; mark < 4; mark++) {
                x = new MonitorWays(STRICT);
                long number = 1;
                for (int i = 0; i < length; i++) {
                    check.due("act", x.act(0, MARK, mark), i + 1);
                    number = number * 12 + 8 + mark;
                }
                check.due("explore()", x.explore(), 1);
                outcomes(wrapped(number * 12 + 6, 18, 18, 18));
                below += x.outcome(0) < 0 ? 1 : 0;
            }
        }
        check.due("some are less than 0", below > 0, true);
        make(STRICT, most, does(), does(), most);
        check.due("explore()", x.explore(), 1);
        long six = part(11, 11, 11, 11, 11, 11, 6);
        outcomes(wrapped(six, 18, 18, six));
    }

    private void nothingToDo() {
        check.about("explore: the first state is FINAL, all have ENDED");
        for (int kind = 0; kind <= 1; kind++) {
            make(kind);
            check.due("explore()", x.explore(), 1);
            counts(1, 1, 1, 0);
            outcomes(wrapped(18, 18, 18, 18));
            blocks(false, false, false, false);
        }
    }

    private void nothingCanBeDone() {
        check.about("explore: the first state is FINAL, all are BLOCKED");
        make(LOOSE, does(JOIN, 1), does(JOIN, 2), does(JOIN, 3), does(JOIN, 3));
        check.due("explore()", x.explore(), 1);
        counts(1, 1, 0, 0);
        outcomes(wrapped(19, 19, 19, 19));
        blocks(true, true, true, true);
    }

    private void fromTheFirstState() {
        check.about("explore: Goes through all rows of CHOICES from the first state to a FINAL one");
        make(STRICT, does(ASK, 0), does(INTERRUPT, 0));
        step(1, 0);
        check.due("explore()", x.explore(), 2);
        outcomes(wrapped(part(YES, 6), 18, 18, 18), wrapped(part(NO, 6), 18, 18, 18));
        // At first; the interrupt; YES; NO; the interrupt after NO, without effect.
        counts(5, 2, 2, 2);
    }

    private void presentStateStays() {
        check.about("explore: the present state stays");
        make(LOOSE, does(ENTER, 0, ENTER, 0, WAIT, 0), does(UNPARK, 0, INTERRUPT, 0, ENTER, 1), does(PARK, 0, PARK, 0), does(MARK, 3));
        step(0, 0, 0, 1, 1, 1, 2, 3);
        choose(2, 3, 1);
        step(2);
        check.due("explore()", x.explore() > 0, true);
        check.due("count(0)", x.count(0), 10);
        state(0, IN_SET + INTERRUPTED + PERMIT);
        state(1, ENDED);
        state(2, PARKED);
        state(3, ENDED);
        allows(2);
        letters(0);
        letters(3, 11);
        monitor(0, REFUSED, 0);
        monitor(1, 1, 1);
        set(0, 0);
        choose(0, 1, 1);
        step(0);
        monitor(0, 0, 2);
        check.due("reset()", x.reset(), 12);
    }

    private void sameOutcomeCountsOnce() {
        check.about("explore: How many different OUTCOMES there are");
        make(STRICT, does(MARK, 0), does(UNPARK, 0));
        check.due("explore()", x.explore(), 1);
        // 0 ends with the permit or without: two FINAL states with one outcome.
        counts(5, 2, 2, 2);
        outcomes(wrapped(part(8, 6), 18, 18, 18));
    }

    private void resultsTellApart() {
        check.about("explore: SAME: RESULTS too");
        make(STRICT, does(INTERRUPT, 1), does(SLEEP, 0, ASK, 0, SLEEP, 0));
        // BROKEN OFF and NO, YES, NO and BROKEN OFF, NO: by when the interrupt comes.
        check.due("explore()", x.explore(), 4);
        // Before the interrupt: 4 places of 1. After it: at SLEEP; BROKEN OFF at ASK, at SLEEP, at the end; INTERRUPTED
        // at ASK, YES at SLEEP, at the end; NO and INTERRUPTED at SLEEP, BROKEN OFF at the end; NO at the end.
        counts(14, 4, 4, 2);
    }

    private void flagsTellApart() {
        check.about("explore: SAME: all that is said of threads");
        make(STRICT, does(UNPARK, 1), does(MARK, 0), does(INTERRUPT, 1));
        check.due("explore()", x.explore(), 1);
        // While 1 runs: two flags, free of one another, 4. Ended: each of 0 and 2 not done, done before or after: 9.
        counts(4 + 9, 4, 4, 3);
    }

    private void setsTellApart() {
        check.about("explore: SAME: all that is said of sets: the order in them");
        make(STRICT, does(ENTER, 0, WAIT, 0), does(ENTER, 0, WAIT, 0));
        check.due("explore()", x.explore(), 1);
        counts(9, 2, 0, 2);
        check.about("explore: all threads in one set, in each order");
        int[] waiter = does(ENTER, 1, WAIT, 1);
        make(STRICT, waiter, waiter, waiter, waiter);
        check.due("explore()", x.explore(), 1);
        // With k in the set, in order, none of the others owns the monitor or one of them: 5 + 4 * 4 + 12 * 3 + 24 * 2 + 24.
        counts(129, 24, 0, 4);
        outcomes(wrapped(19, 19, 19, 19));
    }

    private void keptCounts() {
        check.about("explore: counts that are kept come back");
        // It waits with a count of 2, then with a count of 1.
        make(STRICT, does(ENTER, 0, ENTER, 0, WAIT_WITH_TIME, 0, LEAVE, 0, WAIT_WITH_TIME, 0, LEAVE, 0));
        check.due("explore()", x.explore(), 1);
        counts(11, 1, 1, 1);
        outcomes(wrapped(part(TIMED_OUT, TIMED_OUT, 6), 18, 18, 18));
        check.about("explore: SAME: nothing is kept for one that came back");
        make(STRICT, does(ENTER, 0, WAIT, 0), does(INTERRUPT, 0));
        check.due("explore()", x.explore(), 1);
        counts(8, 1, 1, 2);
    }

    private void doneOnceTellsApart() {
        check.about("explore: SAME: and what was done once");
        make(LOOSE, does(PARK, 0), does(UNPARK, 0));
        check.due("explore()", x.explore(), 1);
        // At first; PARKED; strayed; a permit; unparked, as with the permit taken; strayed and 1 done.
        counts(6, 2, 2, 2);
    }

    private void exploreAgain() {
        check.about("explore: again it finds the same");
        make(LOOSE, does(PARK, 0, ASK, 0), does(INTERRUPT, 0));
        int states = 0;
        for (int i = 0; i < 3; i++) {
            check.due("explore()", x.explore(), 2);
            states = i == 0 ? x.count(1) : states;
            check.due("count(1)", x.count(1), states);
            // YES by the interrupt alone, YES and NO after it ran on for no reason.
            check.due("count(2)", x.count(2), 3);
            outcomes(wrapped(part(YES, 6), 18, 18, 18), wrapped(part(NO, 6), 18, 18, 18));
            step(i == 0 ? 0 : 1);
            check.due("reset()", x.reset(), 1);
        }
    }

    private void exploreAfterAct() {
        check.about("explore: after an act, the same outcome is found again");
        make(STRICT);
        check.due("explore()", x.explore(), 1);
        check.due("act", x.act(0, SLEEP, 0), 1);
        check.due("explore()", x.explore(), 1);
        counts(2, 1, 1, 1);
        outcomes(wrapped(18, 18, 18, 18));
        check.about("explore: after an act, from the first state, whatever was gone through before");
        make(STRICT, does(ENTER, 0, WAIT, 0));
        check.due("explore()", x.explore(), 1);
        counts(3, 1, 0, 1);
        check.due("act", x.act(1, INTERRUPT, 0), 1);
        check.due("explore()", x.explore(), 1);
        counts(8, 1, 1, 2);
        outcomes(wrapped(part(BROKEN_OFF, 6), 18, 18, 18));
    }

    private void justEnough() {
        check.about("explore: 3000 states (the first one counts) are not more than 3000");
        make(STRICT, FIFTEEN, TEN, FIVE, FOUR);
        check.due("explore()", x.explore(), 1);
        counts(15 * 10 * 5 * 4, 1, 1, 4);
        outcomes(wrapped(part(3, 3, 3, 3, 8, 6), part(3, 3, 8, 9, 6), part(8, 8, 8, 8, 6), part(8, 8, 8, 6)));
    }

    private void oneTooMany() {
        check.about("explore: more than 3000 states: FULL");
        int[][] programs = {
            does(ENTER, 0, ENTER, 0, WAIT, 0, UNPARK, 2),
            does(UNPARK, 3, PARK, 1),
            does(ENTER, 0, INTERRUPT, 1, UNPARK, 3, WAIT, 0, WAIT, 1),
            does(PARK, 1, WAIT_WITH_TIME, 1, LEAVE, 1, UNPARK, 3, INTERRUPT, 1, NOTIFY_ALL, 0)
        };
        PlainModel model = new PlainModel(LOOSE);
        for (int t = 0; t < 4; t++) {
            for (int i = 0; i < programs[t].length; i += 2) {
                model.act(t, programs[t][i], programs[t][i + 1]);
            }
        }
        model.explore(3001);
        check.due("the plain model's states", model.found.states, 3001);
        make(LOOSE, programs);
        check.due("explore()", x.explore(), FULL);
        nothingFound();
    }

    private void farTooMany() {
        check.about("explore: far more than 3000 states");
        make(LOOSE, FIFTEEN, does(ENTER, 1, WAIT_WITH_TIME, 1, WAIT_WITH_TIME, 1, WAIT_WITH_TIME, 1, WAIT_WITH_TIME, 1, WAIT_WITH_TIME, 1),
            does(INTERRUPT, 0, INTERRUPT, 1, INTERRUPT, 3, INTERRUPT, 0, INTERRUPT, 1, INTERRUPT, 3), does(PARK, 0, PARK, 0, ASK, 0, PARK, 0, ASK, 0, PARK, 0));
        for (int i = 0; i < 3; i++) {
            check.due("explore()", x.explore(), FULL);
            nothingFound();
        }
        state(0, RUNNING);
    }

    private void nothingIsFoundWhenFull() {
        check.about("explore: FULL, and nothing is found, of what was found before neither");
        make(STRICT, FIFTEEN, TEN, FIVE, FOUR);
        check.due("explore()", x.explore(), 1);
        check.due("act", x.act(3, JOIN, 3), 4);
        step(0, 0);
        check.due("explore()", x.explore(), 1);
        blocks(false, false, false, true);
        check.due("act", x.act(2, MARK, 0), 5);
        step(0, 0);
        check.due("explore()", x.explore(), FULL);
        nothingFound();
        check.about("explore: FULL, the present state stays");
        check.due("count(0)", x.count(0), 2);
        state(0, IN_SET);
        set(0, 0);
        check.due("reset()", x.reset(), 2);
        nothingFound();
    }

    private void foundAgainAfterFull() {
        check.about("explore: what was FULL can be found when an act leaves fewer states");
        int[] marks = does(JOIN, 3, MARK, 0, MARK, 1, MARK, 2, MARK, 3, ASK, 0);
        int[] waits = does(JOIN, 3, ENTER, 0, WAIT_WITH_TIME, 0, WAIT_WITH_TIME, 0, WAIT_WITH_TIME, 0, WAIT_WITH_TIME, 0);
        int[] others = does(JOIN, 3, ENTER, 1, WAIT_WITH_TIME, 1, WAIT_WITH_TIME, 1, WAIT_WITH_TIME, 1, WAIT_WITH_TIME, 1);
        make(LOOSE, waits, others, marks);
        check.due("explore()", x.explore(), FULL);
        nothingFound();
        check.due("act", x.act(3, JOIN, 3), 1);
        check.due("explore()", x.explore(), 1);
        counts(1, 1, 0, 0);
        outcomes(wrapped(19, 19, 19, 19));
        blocks(true, true, true, true);
    }

    private void outcomeEdges() {
        check.about("outcome: The k-th least OUTCOME found, from 0; NONE if there is none");
        make(STRICT, does(ASK, 0), does(INTERRUPT, 0));
        check.due("explore()", x.explore(), 2);
        check.due("outcome(0)", x.outcome(0), wrapped(part(YES, 6), 18, 18, 18));
        check.due("outcome(1)", x.outcome(1), wrapped(part(NO, 6), 18, 18, 18));
        for (int k : new int[] {-1, -2, 2, 3, 15, 16, 17, 3000, LEAST, MOST, 1 << 30, LEAST + 1}) {
            check.due("outcome(" + k + ")", x.outcome(k), MonitorWays.NONE);
        }
    }

    private void outcomeLeastFirst() {
        check.about("outcome: the least first, those less than 0 before all others");
        make(STRICT, does(ASK, 0, ASK, 0, ASK, 0, ASK, 0, ASK, 0, ASK, 0),
            does(INTERRUPT, 0, INTERRUPT, 0, INTERRUPT, 0, INTERRUPT, 0, INTERRUPT, 0, INTERRUPT, 0));
        // An interrupt comes before each ASK or does not, so all rows of YES and NO can come.
        long[] due = new long[64];
        for (int bits = 0; bits < 64; bits++) {
            long letters = 1;
            for (int i = 0; i < 6; i++) {
                letters = letters * 12 + ((bits >> i & 1) == 0 ? YES : NO);
            }
            due[bits] = wrapped(letters * 12 + 6, 18, 18, 18);
        }
        Arrays.sort(due);
        check.due("some are less than 0, some not", due[0] < 0 && due[63] > 0, true);
        check.due("explore()", x.explore(), 64);
        outcomes(due);
        check.due("outcome(-1)", x.outcome(-1), MonitorWays.NONE);
    }

    private void outcomeBefore() {
        check.about("outcome: NONE before explore, and after an act");
        make(STRICT, does(MARK, 0));
        check.due("outcome(0)", x.outcome(0), MonitorWays.NONE);
        check.due("explore()", x.explore(), 1);
        check.due("outcome(0)", x.outcome(0), wrapped(part(8, 6), 18, 18, 18));
        check.due("reset()", x.reset(), 0);
        check.due("outcome(0) after reset", x.outcome(0), wrapped(part(8, 6), 18, 18, 18));
        check.due("act", x.act(0, MARK, 1), 2);
        check.due("outcome(0)", x.outcome(0), MonitorWays.NONE);
    }

    private void mayBlockEdges() {
        check.about("mayBlock: Whether in some FINAL state that was found thread t is BLOCKED");
        make(STRICT, does(ENTER, 0, LEAVE, 0), does(ENTER, 0), does(MARK, 0), does(JOIN, 0));
        check.due("explore()", x.explore(), 2);
        // 1 first: 0 and its JOIN are blocked; 0 first: none is.
        blocks(true, false, false, true);
        check.about("mayBlock: false for another t");
        int[] parks = does(PARK, 0);
        make(STRICT, parks, parks, parks, parks);
        check.due("explore()", x.explore(), 1);
        blocks(true, true, true, true);
        for (int t : new int[] {-1, 4, 5, -4, LEAST, MOST, 256, 1 << 30, LEAST + 1}) {
            check.due("mayBlock(" + t + ")", x.mayBlock(t), false);
        }
    }

    private void mayBlockBefore() {
        check.about("mayBlock: false before");
        int[] parks = does(PARK, 0);
        make(STRICT, parks, parks, parks, parks);
        blocks(false, false, false, false);
        step(0, 1, 2, 3);
        blocks(false, false, false, false);
        check.due("explore()", x.explore(), 1);
        check.due("reset()", x.reset(), 4);
        blocks(true, true, true, true);
        check.due("act", x.act(0, MARK, 0), 2);
        blocks(false, false, false, false);
    }

    private void countOfChoices() {
        check.about("count(0): CHOICES made since the reset");
        make(STRICT, does(MARK, 0, MARK, 1, JOIN, 0));
        check.due("count(0)", x.count(0), 0);
        step(0);
        check.due("count(0)", x.count(0), 1);
        step(0);
        choose(0, 0, 0);
        choose(0, -1, REFUSED);
        check.due("count(0)", x.count(0), 2);
        check.due("explore()", x.explore(), 1);
        check.due("count(0)", x.count(0), 2);
        check.due("reset()", x.reset(), 2);
        check.due("count(0)", x.count(0), 0);
        step(0);
        check.due("act", x.act(1, MARK, 0), 1);
        check.due("count(0)", x.count(0), 0);
    }

    private void countBefore() {
        check.about("count(1): (0 before and after FULL), and of these none");
        make(STRICT, FIFTEEN, TEN, FIVE, FIVE);
        counts(0, 0, 0, 0);
        check.due("explore()", x.explore(), FULL);
        counts(0, 0, 0, 0);
        make(STRICT);
        counts(0, 0, 0, 0);
    }

    private void countOfStates() {
        check.about("count(2): of these, FINAL ones; count(3): of these, those in which all threads have ENDED");
        make(STRICT, does(ENTER, 0, ENTER, 1), does(ENTER, 1, ENTER, 0));
        check.due("explore()", x.explore(), 3);
        // None; 0 has one, both; 1 has one, both; each has one. Three are FINAL, and in each one is blocked.
        counts(6, 3, 0, 2);
        make(STRICT, does(ENTER, 0, ENTER, 1, LEAVE, 1, LEAVE, 0), does(ENTER, 1, ENTER, 0, LEAVE, 0, LEAVE, 1));
        check.due("explore()", x.explore(), 2);
        check.due("count(2)", x.count(2), 2);
        check.due("count(3)", x.count(3), 1);
        check.about("count(1): what the last explore came to");
        check.due("reset()", x.reset(), 0);
        check.due("count(2)", x.count(2), 2);
        check.due("act", x.act(2, MARK, 0), 1);
        check.due("count(2)", x.count(2), 0);
    }

    private void countOfMostChoices() {
        check.about("count(4): the most CHOICES allowed in one of these states");
        make(STRICT, does(MARK, 0), does(MARK, 0), does(MARK, 0), does(MARK, 0));
        check.due("explore()", x.explore(), 1);
        counts(16, 1, 1, 4);
        check.about("count(4): each way counts");
        int[] waits = does(ENTER, 0, WAIT_WITH_TIME, 0);
        make(LOOSE, waits, waits, waits, does(INTERRUPT, 0, INTERRUPT, 1, INTERRUPT, 2, ENTER, 0, NOTIFY, 0));
        check.due("explore()", x.explore() > 1, true);
        // Three in the set, INTERRUPTED and with a time: nine; and the NOTIFY by two ways.
        check.due("count(4)", x.count(4), 3 * 3 + 2);
    }

    private void countElse() {
        check.about("count: Else REFUSED");
        make(STRICT, does(MARK, 0));
        check.due("explore()", x.explore(), 1);
        for (int what : new int[] {-1, 5, 6, -5, LEAST, MOST, 256, 1 << 30, LEAST + 1}) {
            check.due("count(" + what + ")", x.count(what), REFUSED);
        }
        counts(2, 1, 1, 1);
    }

    private void nothingFound() {
        counts(0, 0, 0, 0);
        outcomes();
        check.due("outcome(1)", x.outcome(1), MonitorWays.NONE);
        blocks(false, false, false, false);
    }

    /** The outcome by whole numbers of any size, of which the low 64 bits are the long that has wrapped. */
    private static long wrapped(long n0, long n1, long n2, long n3) {
        BigInteger factor = BigInteger.valueOf(48611);
        BigInteger number = BigInteger.valueOf(n0);
        for (long next : new long[] {n1, n2, n3}) {
            number = number.multiply(factor).add(BigInteger.valueOf(next));
        }
        return number.longValue();
    }
}
