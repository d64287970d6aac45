import java.util.ArrayList;
import java.util.Arrays;
import java.util.List;

/** Every program of two or three short threads: what is found must be what the plain model finds. */
public final class SmallProgramsTest extends Scene {
    private static final int MOST_STATES = 3000;
    private static final int[] ENTERS = does(ENTER, 0);
    private static final int[] WAITS_AND_ASKS = does(ENTER, 0, WAIT, 0, ASK, 0);

    private int kind;
    private int[][] programs;
    private PlainModel model;

    public static void main(String[] args) {
        SmallProgramsTest test = new SmallProgramsTest();
        test.compareAll();
        test.check.end();
    }

    private void compareAll() {
        List<int[]> actions = allActions();
        for (int[] first : actions) {
            for (int[] second : actions) {
                for (int[] other : actions) {
                    compare(joined(first, second), other);
                    compare(joined(ENTERS, first, second), joined(ENTERS, other));
                }
                compare(WAITS_AND_ASKS, joined(ENTERS, first), joined(ENTERS, second));
            }
        }
    }

    /** Each action with each operand that makes a difference between threads 0 and 1. */
    private static List<int[]> allActions() {
        List<int[]> all = new ArrayList<>();
        for (int a = 0; a < 2; a++) {
            for (int action = ENTER; action <= NOTIFY_ALL; action++) {
                all.add(does(action, a));
            }
            all.add(does(INTERRUPT, a));
            all.add(does(UNPARK, a));
            all.add(does(JOIN, a));
        }
        for (int action : new int[] {PARK, SLEEP, MARK, ASK}) {
            all.add(does(action, 0));
        }
        return all;
    }

    private static int[] joined(int[]... parts) {
        int[] whole = new int[0];
        for (int[] part : parts) {
            int before = whole.length;
            whole = Arrays.copyOf(whole, before + part.length);
            System.arraycopy(part, 0, whole, before, part.length);
        }
        return whole;
    }

    private void compare(int[]... newPrograms) {
        programs = newPrograms;
        compareAs(STRICT);
        compareAs(LOOSE);
    }

    private void compareAs(int newKind) {
        kind = newKind;
        x = new MonitorWays(kind);
        model = new PlainModel(kind);
        for (int t = 0; t < programs.length; t++) {
            for (int i = 0; i < programs[t].length; i += 2) {
                due("act of thread " + t, x.act(t, programs[t][i], programs[t][i + 1]), model.act(t, programs[t][i], programs[t][i + 1]));
            }
        }
        due("explore()", x.explore(), model.explore(MOST_STATES));
        compareFound();
    }

    private void compareFound() {
        List<Long> wanted = model.outcomes();
        for (int k = 0; k < wanted.size(); k++) {
            due("outcome", x.outcome(k), wanted.get(k));
        }
        due("outcome behind the last", x.outcome(wanted.size()), MonitorWays.NONE);
        for (int t = 0; t < 4; t++) {
            due("mayBlock", x.mayBlock(t) ? 1 : 0, model.found.blocked[t] ? 1 : 0);
        }
        due("count(1)", x.count(1), model.found.states);
        due("count(2)", x.count(2), model.found.finals);
        due("count(3)", x.count(3), model.found.allEnded);
        due("count(4)", x.count(4), model.found.most);
    }

    // The text is only made for a wrong answer: there are too many right ones.
    private void due(String call, long got, long want) {
        if (got != want) {
            check.about("kind " + kind + ", programs " + Arrays.deepToString(programs));
        }
        check.due(call, got, want);
    }
}
