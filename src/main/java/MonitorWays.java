import java.util.Arrays;

/**
 * Threads that enter and leave monitors, wait, are notified, interrupted and timed out, park and are joined:
 * stepped by hand, and gone through in all ways.
 */
public final class MonitorWays {
    public static final int REFUSED = -1;
    public static final int FULL = -2;
    public static final long NONE = -1L;

    private static final int THREADS = 4;
    private static final int MONITORS = 2;
    private static final int MARKS = 4;
    private static final int WAYS = 4;
    private static final int MOST_ACTIONS = 6;
    private static final int MOST_STATES = 3000;
    private static final int NOBODY = -1;

    private static final int ENTER = 0;
    private static final int LEAVE = 1;
    private static final int WAIT = 2;
    private static final int WAIT_WITH_TIME = 3;
    private static final int NOTIFY = 4;
    private static final int NOTIFY_ALL = 5;
    private static final int INTERRUPT = 6;
    private static final int PARK = 7;
    private static final int UNPARK = 8;
    private static final int JOIN = 9;
    private static final int SLEEP = 10;
    private static final int MARK = 11;
    private static final int ASK = 12;

    private static final int RUNNING = 0;
    private static final int IN_SET = 1;
    private static final int RETURNING = 2;
    private static final int PARKED = 3;
    private static final int ENDED = 4;
    private static final int INTERRUPTED_PART = 8;
    private static final int PERMIT_PART = 16;

    private static final int MISUSE = 0;
    private static final int BROKEN_OFF = 1;
    private static final int NOTIFIED = 2;
    private static final int TIMED_OUT = 3;
    private static final int YES = 4;
    private static final int NO = 5;
    private static final int FIRST_MARK = 8;

    private static final int LETTER_BASE = 12;
    private static final int ENDED_DIGIT = 6;
    private static final int BLOCKED_DIGIT = 7;
    private static final long OUTCOME_FACTOR = 48611L;

    private final Program[] programs;
    private final Machine present;
    private final Search search;
    private int choices;

    public MonitorWays(int kind) {
        Program[] empty = new Program[THREADS];
        for (int t = 0; t < THREADS; t++) {
            empty[t] = new Program();
        }
        boolean loose = kind == 1;
        programs = empty;
        present = new Machine(empty, loose);
        search = new Search(new Machine(empty, loose));
    }

    public int act(int t, int action, int a) {
        if (!isThread(t) || !isAction(action, a)) {
            return REFUSED;
        }
        if (programs[t].length >= MOST_ACTIONS) {
            return FULL;
        }
        programs[t].add(action, a);
        search.forget();
        beginAnew();
        return programs[t].length;
    }

    public int choose(int t, int way) {
        if (!isThread(t) || !isWay(way)) {
            return REFUSED;
        }
        if (!present.allows(t, way)) {
            return 0;
        }
        present.take(t, way);
        choices++;
        return 1;
    }

    public boolean allowed(int t, int way) {
        return isThread(t) && isWay(way) && present.allows(t, way);
    }

    public int reset() {
        int made = choices;
        beginAnew();
        return made;
    }

    public int state(int t) {
        return isThread(t) ? present.workers[t].stateNumber() : REFUSED;
    }

    public int letter(int t, int k) {
        return isThread(t) ? present.workers[t].letterAt(k) : REFUSED;
    }

    public int owner(int m) {
        if (!isMonitor(m) || present.monitors[m].isFree()) {
            return REFUSED;
        }
        return present.monitors[m].owner;
    }

    public int held(int m) {
        return isMonitor(m) ? present.monitors[m].depth : 0;
    }

    public int inSet(int m, int k) {
        return isMonitor(m) ? present.monitors[m].waiterAt(k) : REFUSED;
    }

    public int explore() {
        // Only act changes what there is to find, so one search serves all calls until then.
        if (!search.done) {
            search.goThrough();
        }
        return search.answer;
    }

    public long outcome(int k) {
        return search.outcomeAt(k);
    }

    public boolean mayBlock(int t) {
        return isThread(t) && search.blocked[t];
    }

    public int count(int what) {
        switch (what) {
            case 0:
                return choices;
            case 1:
                return search.stateCount;
            case 2:
                return search.finalCount;
            case 3:
                return search.allEndedCount;
            case 4:
                return search.mostChoices;
            default:
                return REFUSED;
        }
    }

    private void beginAnew() {
        present.begin();
        choices = 0;
    }

    private static boolean isThread(int t) {
        return t >= 0 && t < THREADS;
    }

    private static boolean isMonitor(int m) {
        return m >= 0 && m < MONITORS;
    }

    private static boolean isWay(int way) {
        return way >= 0 && way < WAYS;
    }

    private static boolean isAction(int action, int a) {
        if (action < ENTER || action > ASK) {
            return false;
        }
        if (action <= NOTIFY_ALL) {
            return isMonitor(a);
        }
        if (action == INTERRUPT || action == UNPARK || action == JOIN) {
            return isThread(a);
        }
        return action != MARK || (a >= 0 && a < MARKS);
    }

    /** What one thread has to do. */
    static final class Program {
        final int[] actions = new int[MOST_ACTIONS];
        final int[] operands = new int[MOST_ACTIONS];
        int length;

        void add(int action, int operand) {
            if (length < MOST_ACTIONS) {
                actions[length] = action;
                operands[length] = operand;
                length++;
            }
        }
    }

    /** One thread in a state of a machine. */
    static final class Worker {
        int status;
        // In a set, RETURNING or PARKED it still stands at that action, for this tells its monitor and its time.
        int place;
        int kept;
        boolean interrupted;
        boolean permit;
        boolean strayed;
        private final Program program;
        // The letters as digits, behind a 1 that keeps a MISUSE at the front from being lost.
        private int result;

        Worker(Program program) {
            this.program = program;
        }

        void begin() {
            place = 0;
            status = program.length > 0 ? RUNNING : ENDED;
            kept = 0;
            interrupted = false;
            permit = false;
            strayed = false;
            result = 1;
        }

        void runOn() {
            place++;
            status = place < program.length ? RUNNING : ENDED;
        }

        int action() {
            return program.actions[place];
        }

        int operand() {
            return program.operands[place];
        }

        void put(int letter) {
            result = result * LETTER_BASE + letter;
        }

        /** Whether it was INTERRUPTED, which it is no more. */
        boolean takeInterrupt() {
            boolean was = interrupted;
            interrupted = false;
            return was;
        }

        int stateNumber() {
            return status + (interrupted ? INTERRUPTED_PART : 0) + (permit ? PERMIT_PART : 0);
        }

        int letterAt(int k) {
            int letters = letterCount();
            if (k < 0 || k >= letters) {
                return REFUSED;
            }
            int rest = result;
            for (int i = letters - 1; i > k; i--) {
                rest /= LETTER_BASE;
            }
            return rest % LETTER_BASE;
        }

        private int letterCount() {
            int letters = 0;
            for (int rest = result; rest >= LETTER_BASE && letters < MOST_ACTIONS; rest /= LETTER_BASE) {
                letters++;
            }
            return letters;
        }

        long outcomePart() {
            return (long) result * LETTER_BASE + (status == ENDED ? ENDED_DIGIT : BLOCKED_DIGIT);
        }

        // Six letters behind the 1 stay below 2 to the 23rd, so that this takes 35 bits.
        long packed() {
            int flags = (interrupted ? 1 : 0) | (permit ? 2 : 0) | (strayed ? 4 : 0);
            int small = status | (place << 3) | (kept << 6) | (flags << 9);
            return ((long) result << 12) | small;
        }

        void unpack(long word) {
            int small = (int) word & 0xFFF;
            int flags = small >> 9;
            status = small & 7;
            place = (small >> 3) & 7;
            kept = (small >> 6) & 7;
            interrupted = (flags & 1) != 0;
            permit = (flags & 2) != 0;
            strayed = (flags & 4) != 0;
            result = (int) (word >>> 12) & 0x7FFFFF;
        }
    }

    /** One monitor with the set of those that wait on it, in the order in which they came in. */
    static final class Monitor {
        int owner;
        int depth;
        int setSize;
        private final int[] set = new int[THREADS];

        void begin() {
            setFree();
            setSize = 0;
        }

        boolean isFree() {
            return owner == NOBODY;
        }

        void setFree() {
            owner = NOBODY;
            depth = 0;
        }

        void own(int t, int newDepth) {
            owner = t;
            depth = newDepth;
        }

        void leaveOnce() {
            depth--;
            if (depth <= 0) {
                setFree();
            }
        }

        int waiterAt(int k) {
            return k >= 0 && k < setSize ? set[k] : REFUSED;
        }

        void addWaiter(int t) {
            if (setSize < THREADS) {
                set[setSize] = t;
                setSize++;
            }
        }

        void dropWaiter(int t) {
            int left = 0;
            for (int i = 0; i < setSize; i++) {
                if (set[i] != t) {
                    set[left] = set[i];
                    left++;
                }
            }
            setSize = left;
        }

        // 17 bits: three each for owner, depth and size, two for each that waits.
        long packed() {
            int small = (owner + 1) | (depth << 3) | (setSize << 6);
            for (int i = 0; i < setSize; i++) {
                small |= set[i] << (9 + 2 * i);
            }
            return small;
        }

        void unpack(long word) {
            int small = (int) word & 0x1FFFF;
            owner = (small & 7) - 1;
            depth = (small >> 3) & 7;
            setSize = Math.min((small >> 6) & 7, THREADS);
            for (int i = 0; i < setSize; i++) {
                set[i] = (small >> (9 + 2 * i)) & 3;
            }
        }
    }

    /** A state of all threads and monitors, and the choices in it. */
    static final class Machine {
        private static final int MONITOR_SHIFT = 40;

        final Worker[] workers = new Worker[THREADS];
        final Monitor[] monitors = new Monitor[MONITORS];
        private final boolean loose;

        Machine(Program[] programs, boolean loose) {
            this.loose = loose;
            for (int t = 0; t < THREADS; t++) {
                workers[t] = new Worker(programs[t]);
            }
            for (int m = 0; m < MONITORS; m++) {
                monitors[m] = new Monitor();
            }
            begin();
        }

        void begin() {
            for (int t = 0; t < THREADS; t++) {
                workers[t].begin();
            }
            for (int m = 0; m < MONITORS; m++) {
                monitors[m].begin();
            }
        }

        boolean allows(int t, int way) {
            Worker worker = workers[t];
            switch (worker.status) {
                case RUNNING:
                    return worker.action() <= NOTIFY_ALL ? monitorUseAllows(t, way) : plainActionAllows(worker, way);
                case IN_SET:
                    return waitingAllows(worker, way);
                case RETURNING:
                    return way == 0 && monitorOf(worker).isFree();
                case PARKED:
                    return way == 1 ? worker.interrupted : way == 3 && mayStray(worker);
                default:
                    return false;
            }
        }

        private boolean monitorUseAllows(int t, int way) {
            int action = workers[t].action();
            Monitor monitor = monitorOf(workers[t]);
            boolean owns = monitor.owner == t;
            if (action == NOTIFY && owns && monitor.setSize > 0) {
                return way == 1 || way == 2;
            }
            return way == 0 && (action != ENTER || owns || monitor.isFree());
        }

        private boolean plainActionAllows(Worker worker, int way) {
            if (worker.action() == JOIN && !worker.interrupted) {
                return way == 0 && hasEnded(worker.operand());
            }
            return way == 0;
        }

        private boolean waitingAllows(Worker worker, int way) {
            switch (way) {
                case 1:
                    return worker.interrupted;
                case 2:
                    return mayStray(worker);
                case 3:
                    return worker.action() == WAIT_WITH_TIME;
                default:
                    return false;
            }
        }

        private boolean mayStray(Worker worker) {
            return loose && !worker.strayed;
        }

        /** Makes a choice that is allowed. */
        void take(int t, int way) {
            Worker worker = workers[t];
            switch (worker.status) {
                case RUNNING:
                    if (worker.action() <= NOTIFY_ALL) {
                        useMonitor(t, way);
                    } else {
                        doPlainAction(worker);
                    }
                    break;
                case IN_SET:
                    leaveSetAlone(t, way);
                    break;
                case RETURNING:
                    comeBack(t);
                    break;
                case PARKED:
                    stopParking(worker, way);
                    break;
                default:
                    break;
            }
        }

        private void useMonitor(int t, int way) {
            Worker worker = workers[t];
            Monitor monitor = monitorOf(worker);
            int action = worker.action();
            if (action == ENTER) {
                monitor.own(t, monitor.depth + 1);
            } else if (monitor.owner != t) {
                worker.put(MISUSE);
            } else if (action == LEAVE) {
                monitor.leaveOnce();
            } else if (action == NOTIFY) {
                notifyWaiter(monitor, way == 1 ? 0 : monitor.setSize - 1);
            } else if (action == NOTIFY_ALL) {
                for (int left = monitor.setSize; left > 0; left--) {
                    notifyWaiter(monitor, 0);
                }
            } else if (worker.takeInterrupt()) {
                worker.put(BROKEN_OFF);
            } else {
                goIntoSet(t, monitor);
                return;
            }
            worker.runOn();
        }

        private void goIntoSet(int t, Monitor monitor) {
            workers[t].kept = monitor.depth;
            workers[t].status = IN_SET;
            monitor.setFree();
            monitor.addWaiter(t);
        }

        private void notifyWaiter(Monitor monitor, int k) {
            int t = monitor.waiterAt(k);
            if (t != REFUSED) {
                monitor.dropWaiter(t);
                workers[t].put(NOTIFIED);
                workers[t].status = RETURNING;
            }
        }

        private void leaveSetAlone(int t, int way) {
            Worker worker = workers[t];
            if (way == 1) {
                worker.interrupted = false;
                worker.put(BROKEN_OFF);
            } else if (way == 2) {
                worker.strayed = true;
            } else {
                worker.put(TIMED_OUT);
            }
            monitorOf(worker).dropWaiter(t);
            worker.status = RETURNING;
        }

        private void comeBack(int t) {
            Worker worker = workers[t];
            monitorOf(worker).own(t, worker.kept);
            // States in which nothing is kept any more must be the same whatever was kept before.
            worker.kept = 0;
            worker.runOn();
        }

        private void stopParking(Worker worker, int way) {
            if (way == 3) {
                worker.strayed = true;
            }
            worker.runOn();
        }

        /** The actions that are not on monitors. */
        private void doPlainAction(Worker worker) {
            switch (worker.action()) {
                case INTERRUPT:
                    interrupt(workers[worker.operand()]);
                    break;
                case PARK:
                    if (!worker.permit && !worker.interrupted) {
                        worker.status = PARKED;
                        return;
                    }
                    worker.permit = false;
                    break;
                case UNPARK:
                    unpark(workers[worker.operand()]);
                    break;
                case JOIN:
                case SLEEP:
                    if (worker.takeInterrupt()) {
                        worker.put(BROKEN_OFF);
                    }
                    break;
                case MARK:
                    worker.put(FIRST_MARK + worker.operand());
                    break;
                case ASK:
                    worker.put(worker.takeInterrupt() ? YES : NO);
                    break;
                default:
                    break;
            }
            worker.runOn();
        }

        private void interrupt(Worker other) {
            if (other.status != ENDED) {
                other.interrupted = true;
            }
        }

        private void unpark(Worker other) {
            if (other.status == PARKED) {
                other.runOn();
            } else if (other.status != ENDED) {
                other.permit = true;
            }
        }

        private Monitor monitorOf(Worker worker) {
            return monitors[worker.operand()];
        }

        boolean hasEnded(int t) {
            return workers[t].status == ENDED;
        }

        long outcomeNumber() {
            long number = 0;
            for (int t = 0; t < THREADS; t++) {
                number = number * OUTCOME_FACTOR + workers[t].outcomePart();
            }
            return number;
        }

        /** All of the state in THREADS words: one for each thread, the first ones with a monitor above it. */
        long wordOf(int t) {
            long word = workers[t].packed();
            return t < MONITORS ? word | (monitors[t].packed() << MONITOR_SHIFT) : word;
        }

        void unpackWord(int t, long word) {
            workers[t].unpack(word);
            if (t < MONITORS) {
                monitors[t].unpack(word >>> MONITOR_SHIFT);
            }
        }
    }

    /** Different states, numbered as they came, in rows that grow when there is need and are used again. */
    static final class States {
        private static final int FIRST_SLOTS = 64;
        private static final int GROWTH = 4;

        private int size;
        private long[] words = new long[roomIn(FIRST_SLOTS) * THREADS];
        // A state's number plus 1, or 0, found by the state's hash.
        private int[] slots = new int[FIRST_SLOTS];

        void clear() {
            size = 0;
            Arrays.fill(slots, 0);
        }

        int size() {
            return size;
        }

        /** Keeps the state unless an equal one is here; false if it would be one too many. */
        boolean keep(Machine machine) {
            if (size >= roomIn(slots.length)) {
                grow();
            }
            // It is written behind the last one, and stays there only if it is counted.
            for (int t = 0; t < THREADS; t++) {
                words[size * THREADS + t] = machine.wordOf(t);
            }
            int slot = slotOf(size);
            if (slots[slot] != 0) {
                return true;
            }
            if (size >= MOST_STATES) {
                return false;
            }
            size++;
            slots[slot] = size;
            return true;
        }

        void restore(int number, Machine machine) {
            for (int t = 0; t < THREADS; t++) {
                machine.unpackWord(t, words[number * THREADS + t]);
            }
        }

        // A quarter of the slots stays free, so that a search always comes to a free one.
        private static int roomIn(int slotCount) {
            return slotCount / 4 * 3;
        }

        private void grow() {
            slots = new int[slots.length * GROWTH];
            words = Arrays.copyOf(words, roomIn(slots.length) * THREADS);
            for (int i = 0; i < size; i++) {
                slots[slotOf(i)] = i + 1;
            }
        }

        /** The slot of an equal state, or the free one that is for it. */
        private int slotOf(int number) {
            int mask = slots.length - 1;
            int slot = hashOf(number) & mask;
            for (int tries = 0; tries < slots.length; tries++) {
                if (slots[slot] == 0 || areSame(slots[slot] - 1, number)) {
                    break;
                }
                slot = (slot + 1) & mask;
            }
            return slot;
        }

        private int hashOf(int number) {
            long hash = 0;
            for (int t = 0; t < THREADS; t++) {
                hash = (hash ^ words[number * THREADS + t]) * 0x9E3779B97F4A7C15L;
                hash ^= hash >>> 32;
            }
            return (int) hash;
        }

        private boolean areSame(int one, int other) {
            for (int t = 0; t < THREADS; t++) {
                if (words[one * THREADS + t] != words[other * THREADS + t]) {
                    return false;
                }
            }
            return true;
        }
    }

    /** Goes through all states that the programs can come to, and holds what was found. */
    static final class Search {
        private static final int FIRST_OUTCOMES = 16;

        final boolean[] blocked = new boolean[THREADS];
        boolean done;
        int answer;
        int stateCount;
        int finalCount;
        int allEndedCount;
        int mostChoices;
        private final Machine machine;
        private final States states = new States();
        // Without equal ones, the least first.
        private long[] outcomes = new long[FIRST_OUTCOMES];
        private int outcomeCount;

        Search(Machine machine) {
            this.machine = machine;
        }

        void forget() {
            done = false;
            stateCount = 0;
            finalCount = 0;
            allEndedCount = 0;
            mostChoices = 0;
            outcomeCount = 0;
            for (int t = 0; t < THREADS; t++) {
                blocked[t] = false;
            }
        }

        void goThrough() {
            states.clear();
            machine.begin();
            boolean room = states.keep(machine);
            for (int i = 0; room && i < states.size() && i < MOST_STATES; i++) {
                room = visit(i);
            }
            if (room) {
                stateCount = states.size();
                answer = outcomeCount;
            } else {
                forget();
                answer = FULL;
            }
            done = true;
        }

        /** Keeps all states that come next after this one; false if there is no room for one. */
        private boolean visit(int number) {
            states.restore(number, machine);
            int choices = 0;
            for (int t = 0; t < THREADS; t++) {
                for (int way = 0; way < WAYS; way++) {
                    if (machine.allows(t, way)) {
                        choices++;
                        machine.take(t, way);
                        if (!states.keep(machine)) {
                            return false;
                        }
                        states.restore(number, machine);
                    }
                }
            }
            mostChoices = Math.max(mostChoices, choices);
            if (choices == 0) {
                noteFinal();
            }
            return true;
        }

        private void noteFinal() {
            boolean allEnded = true;
            for (int t = 0; t < THREADS; t++) {
                if (!machine.hasEnded(t)) {
                    blocked[t] = true;
                    allEnded = false;
                }
            }
            finalCount++;
            if (allEnded) {
                allEndedCount++;
            }
            noteOutcome(machine.outcomeNumber());
        }

        private void noteOutcome(long found) {
            int place = lessThan(found);
            if (place < outcomeCount && outcomes[place] == found) {
                return;
            }
            if (outcomeCount >= outcomes.length) {
                outcomes = Arrays.copyOf(outcomes, outcomes.length * 2);
            }
            System.arraycopy(outcomes, place, outcomes, place + 1, outcomeCount - place);
            outcomes[place] = found;
            outcomeCount++;
        }

        /** How many of the outcomes are less than this one. */
        private int lessThan(long found) {
            int low = 0;
            int high = outcomeCount;
            for (int i = 0; low < high && i < MOST_STATES; i++) {
                int middle = (low + high) / 2;
                if (outcomes[middle] < found) {
                    low = middle + 1;
                } else {
                    high = middle;
                }
            }
            return low;
        }

        long outcomeAt(int k) {
            return k >= 0 && k < outcomeCount ? outcomes[k] : NONE;
        }
    }
}
