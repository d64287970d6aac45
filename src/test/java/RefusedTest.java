import java.util.ArrayList;
import java.util.LinkedHashMap;
import java.util.List;
import java.util.Map;
import java.util.function.ToLongFunction;

/** "A refused call changes nothing": after each one the object answers as one that was never asked it. */
public final class RefusedTest extends Scene {
    private static final int[] OUTSIDE = {-1, 4, Integer.MIN_VALUE, Integer.MAX_VALUE};

    // A call and the answer by which it is refused.
    private record Refused(ToLongFunction<MonitorWays> call, long answer) {
    }

    private final Map<String, Refused> refused = new LinkedHashMap<>();

    public static void main(String[] args) {
        RefusedTest test = new RefusedTest();
        test.listCalls();
        test.compareAll(false);
        test.compareAll(true);
        test.check.end();
    }

    private void listCalls() {
        for (int bad : OUTSIDE) {
            add("act(" + bad + ", 11, 0)", x -> x.act(bad, MARK, 0), REFUSED);
            add("act(2, 0, " + bad + ")", x -> x.act(2, ENTER, bad), REFUSED);
            add("act(2, 8, " + bad + ")", x -> x.act(2, UNPARK, bad), REFUSED);
            add("act(2, 11, " + bad + ")", x -> x.act(2, MARK, bad), REFUSED);
            add("act(3, 11, " + bad + ") of one that is full", x -> x.act(3, MARK, bad), REFUSED);
            add("choose(" + bad + ", 0)", x -> x.choose(bad, 0), REFUSED);
            add("choose(0, " + bad + ")", x -> x.choose(0, bad), REFUSED);
            add("allowed(" + bad + ", 0)", x -> x.allowed(bad, 0) ? 1 : 0, 0);
            add("allowed(0, " + bad + ")", x -> x.allowed(0, bad) ? 1 : 0, 0);
            add("state(" + bad + ")", x -> x.state(bad), REFUSED);
            add("letter(" + bad + ", 0)", x -> x.letter(bad, 0), REFUSED);
            add("letter(0, " + bad + ")", x -> x.letter(0, bad), REFUSED);
            add("owner(" + bad + ")", x -> x.owner(bad), REFUSED);
            add("held(" + bad + ")", x -> x.held(bad), 0);
            add("inSet(" + bad + ", 0)", x -> x.inSet(bad, 0), REFUSED);
            add("inSet(0, " + bad + ")", x -> x.inSet(0, bad), REFUSED);
            add("outcome(" + bad + ")", x -> x.outcome(bad == 4 ? 400 : bad), MonitorWays.NONE);
            add("mayBlock(" + bad + ")", x -> x.mayBlock(bad) ? 1 : 0, 0);
            add("count(" + bad + ")", x -> x.count(bad == 4 ? 5 : bad), REFUSED);
        }
        add("act(2, 13, 0)", x -> x.act(2, 13, 0), REFUSED);
        add("act(2, -1, 0)", x -> x.act(2, -1, 0), REFUSED);
        add("act(3, 11, 0) of one that is full", x -> x.act(3, MARK, 0), FULL);
        add("choose(1, 0), not allowed", x -> x.choose(1, 0), 0);
        add("choose(1, 3), not allowed", x -> x.choose(1, 3), 0);
        add("choose(2, 0), not allowed", x -> x.choose(2, 0), 0);
    }

    private void add(String name, ToLongFunction<MonitorWays> call, long answer) {
        refused.put(name, new Refused(call, answer));
    }

    private void compareAll(boolean found) {
        prepare(found);
        List<Long> due = sights();
        for (Map.Entry<String, Refused> entry : refused.entrySet()) {
            check.about("after " + entry.getKey() + (found ? " with" : " without") + " what was found");
            prepare(found);
            check.due("it", entry.getValue().call().applyAsLong(x), entry.getValue().answer());
            check.due("all that is answered", sights().toString(), due.toString());
        }
    }

    /** In the midst of things: 0 waits in a set, 1 owns its monitor, 2 is PARKED, 3 has letters and a full program. */
    private void prepare(boolean found) {
        make(LOOSE, does(ENTER, 0, WAIT_WITH_TIME, 0), does(ENTER, 0, NOTIFY, 0), does(PARK, 0),
            does(MARK, 1, INTERRUPT, 0, UNPARK, 1, LEAVE, 0, ASK, 0, MARK, 3));
        if (found) {
            check.due("explore()", x.explore() > 1, true);
        }
        step(0, 0, 1, 2, 3, 3, 3, 3);
    }

    /** All answers now, after some more choices, and of a search and a reset after that. */
    private List<Long> sights() {
        List<Long> seen = new ArrayList<>();
        look(seen);
        seen.add((long) x.choose(1, 2));
        seen.add((long) x.choose(2, 3));
        seen.add((long) x.choose(0, 0));
        look(seen);
        seen.add((long) x.explore());
        lookAtFound(seen);
        seen.add((long) x.reset());
        lookAtThreads(seen);
        seen.add((long) x.act(2, MARK, 0));
        return seen;
    }

    private void look(List<Long> seen) {
        lookAtThreads(seen);
        for (int m = 0; m < 2; m++) {
            seen.add((long) x.owner(m));
            seen.add((long) x.held(m));
            for (int k = 0; k < 4; k++) {
                seen.add((long) x.inSet(m, k));
            }
        }
        lookAtFound(seen);
    }

    private void lookAtThreads(List<Long> seen) {
        for (int t = 0; t < 4; t++) {
            seen.add((long) x.state(t));
            for (int k = 0; k < 6; k++) {
                seen.add((long) x.letter(t, k));
            }
            for (int way = 0; way < 4; way++) {
                seen.add(x.allowed(t, way) ? 1L : 0L);
            }
        }
    }

    private void lookAtFound(List<Long> seen) {
        for (int t = 0; t < 4; t++) {
            seen.add(x.mayBlock(t) ? 1L : 0L);
        }
        for (int what = 0; what < 5; what++) {
            seen.add((long) x.count(what));
        }
        for (int k = 0; k < 8; k++) {
            seen.add(x.outcome(k));
        }
    }
}
