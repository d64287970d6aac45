import java.util.List;
import java.util.Random;
import java.util.function.LongSupplier;

/** Runs of calls made up from fixed seeds: the class must answer as the plain model does. */
public final class ModelTest extends Scene {
    private static final int RUNS = 3000;
    private static final int MOST_STATES = 3000;
    private static final int MOST_CALLS = 512;

    private final Random random;
    private final PlainModel model;
    private int calls = 0;
    private int seenFull = 0;
    private int seenManyOutcomes = 0;
    private int seenBlocked = 0;

    private ModelTest(int seed) {
        random = new Random(seed);
        int kind = random.nextInt(3);
        x = new MonitorWays(kind);
        model = new PlainModel(kind);
        check.about("seed " + seed + " kind " + kind);
    }

    public static void main(String[] args) {
        Check all = new Check();
        int full = 0;
        int many = 0;
        int blocked = 0;
        for (int seed = 0; seed < RUNS; seed++) {
            ModelTest one = new ModelTest(seed);
            one.run();
            all.about("seed " + seed);
            all.due("the run", one.check.isClean(), true);
            full += one.seenFull;
            many += one.seenManyOutcomes;
            blocked += one.seenBlocked;
        }
        // Without these the runs would be too tame to tell anything.
        System.out.println("FULL " + full + ", many outcomes " + many + ", blocked " + blocked);
        all.about("all runs");
        all.due("some were FULL", full > 50, true);
        all.due("some had many outcomes", many > 200, true);
        all.due("some were blocked", blocked > 200, true);
        all.end();
    }

    private void run() {
        int rounds = 1 + random.nextInt(2);
        for (int round = 0; round < rounds; round++) {
            addActions();
            walk(15 + random.nextInt(20));
            compareFound();
            exploreBoth();
            compareFound();
            walk(5);
            due("reset()", () -> x.reset(), model.reset());
            walk(15);
            compareState();
            compareFound();
        }
    }

    /** What is answered beyond an object's last promised call is free, so it is not asked. */
    private void due(String call, LongSupplier got, long want) {
        calls++;
        if (calls <= MOST_CALLS) {
            check.due(call, got.getAsLong(), want);
        }
    }

    private void due(String call, LongSupplier got, boolean want) {
        due(call, got, want ? 1L : 0L);
    }

    private void addActions() {
        boolean busy = random.nextInt(6) == 0;
        int most = busy ? 16 : 3 + random.nextInt(12);
        int threads = busy ? 4 : 1 + random.nextInt(4);
        for (int i = 0; i < most; i++) {
            if (busy) {
                addFree(i % threads);
            } else {
                addOne(random.nextInt(threads));
            }
            if (random.nextInt(12) == 0) {
                actBoth(random.nextInt(7) - 1, random.nextInt(17) - 2, random.nextInt(7) - 1);
            }
        }
    }

    /** Mostly actions on the monitor that the thread began with, so that it often owns it. */
    private void addOne(int t) {
        List<int[]> program = model.programs.get(t);
        if (program.isEmpty() && random.nextInt(4) != 0) {
            actBoth(t, ENTER, random.nextInt(5) == 0 ? 1 : 0);
            return;
        }
        int own = program.isEmpty() || program.get(0)[0] > NOTIFY_ALL ? random.nextInt(2) : program.get(0)[1];
        int action = random.nextInt(13);
        int operand = action <= NOTIFY_ALL ? (random.nextInt(8) == 0 ? 1 - own : own) : random.nextInt(4);
        if (action == PARK || action == SLEEP || action == ASK) {
            operand = random.nextInt();
        }
        actBoth(t, action, operand);
    }

    /** Actions that seldom block, so that there are very many states. */
    private void addFree(int t) {
        int[] actions = {WAIT_WITH_TIME, INTERRUPT, INTERRUPT, UNPARK, MARK, ASK};
        int action = model.programs.get(t).isEmpty() && t < 2 ? ENTER : actions[random.nextInt(actions.length)];
        actBoth(t, action, action <= NOTIFY_ALL ? t % 2 : random.nextInt(4));
    }

    private void actBoth(int t, int action, int a) {
        due("act(" + t + ", " + action + ", " + a + ")", () -> x.act(t, action, a), model.act(t, action, a));
    }

    private void walk(int steps) {
        for (int i = 0; i < steps; i++) {
            if (random.nextInt(20) == 0) {
                chooseBoth(random.nextInt(8) - 2, random.nextInt(8) - 2);
            } else {
                chooseBoth(random.nextInt(4), random.nextInt(3) == 0 ? random.nextInt(4) : 0);
            }
            compareThread(random.nextInt(6) - 1);
        }
    }

    private void chooseBoth(int t, int way) {
        due("choose(" + t + ", " + way + ")", () -> x.choose(t, way), model.choose(t, way));
    }

    private void exploreBoth() {
        int want = model.explore(MOST_STATES);
        due("explore()", () -> x.explore(), want);
        if (random.nextInt(5) == 0) {
            due("explore() again", () -> x.explore(), want);
        }
        seenFull += want == FULL ? 1 : 0;
        seenManyOutcomes += want > 5 ? 1 : 0;
    }

    private void compareFound() {
        List<Long> outcomes = model.outcomes();
        for (int i = -1; i <= outcomes.size() && i < 30; i++) {
            int k = i;
            due("outcome(" + k + ")", () -> x.outcome(k), k >= 0 && k < outcomes.size() ? outcomes.get(k) : -1L);
        }
        for (int i = -1; i <= 4; i++) {
            int t = i;
            boolean want = t >= 0 && t < 4 && model.found.blocked[t];
            due("mayBlock(" + t + ")", () -> x.mayBlock(t) ? 1L : 0L, want);
            seenBlocked += want ? 1 : 0;
        }
        int[] counts = {-1, model.made, model.found.states, model.found.finals, model.found.allEnded, model.found.most, -1};
        for (int i = 0; i < counts.length; i++) {
            int what = i - 1;
            due("count(" + what + ")", () -> x.count(what), counts[i]);
        }
    }

    private void compareState() {
        for (int t = -1; t <= 4; t++) {
            compareThread(t);
        }
        for (int i = -1; i <= 2; i++) {
            int m = i;
            boolean known = m >= 0 && m < 2;
            due("owner(" + m + ")", () -> x.owner(m), known ? model.now.owner[m] : -1);
            due("held(" + m + ")", () -> x.held(m), known ? model.now.count[m] : 0);
            for (int j = -1; j <= 4; j++) {
                int k = j;
                due("inSet(" + m + ", " + k + ")", () -> x.inSet(m, k), known ? at(model.now.sets.get(m), k) : -1);
            }
        }
    }

    private void compareThread(int t) {
        boolean known = t >= 0 && t < 4;
        due("state(" + t + ")", () -> x.state(t), known ? model.now.number(t) : -1);
        int last = random.nextInt(8) - 1;
        due("letter(" + t + ", " + last + ")", () -> x.letter(t, last), known ? at(model.now.letters.get(t), last) : -1);
        int way = random.nextInt(6) - 1;
        due("allowed(" + t + ", " + way + ")", () -> x.allowed(t, way) ? 1L : 0L, model.allowed(t, way));
    }

    private static int at(List<Integer> row, int k) {
        return k >= 0 && k < row.size() ? row.get(k) : -1;
    }
}
