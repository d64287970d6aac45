import java.util.ArrayDeque;
import java.util.ArrayList;
import java.util.Collections;
import java.util.HashSet;
import java.util.List;
import java.util.Set;
import java.util.TreeSet;

/** The document's terms told a second time, with lists and texts and without a thought of room or speed. */
final class PlainModel {
    final boolean loose;
    final List<List<int[]>> programs = new ArrayList<>();
    State now;
    int made = 0;
    Found found = new Found();

    PlainModel(int kind) {
        loose = kind == 1;
        for (int t = 0; t < 4; t++) {
            programs.add(new ArrayList<>());
        }
        now = new State();
    }

    /** One state; every choice makes a new one. */
    final class State {
        final String[] mode = {"runs", "runs", "runs", "runs"};
        final int[] at = new int[4];
        final boolean[] interrupted = new boolean[4];
        final boolean[] permit = new boolean[4];
        final boolean[] once = new boolean[4];
        final int[] kept = new int[4];
        final List<List<Integer>> letters = new ArrayList<>();
        final int[] owner = {-1, -1};
        final int[] count = new int[2];
        final List<List<Integer>> sets = new ArrayList<>();

        State() {
            for (int t = 0; t < 4; t++) {
                letters.add(new ArrayList<>());
                endIfNoneLeft(t);
            }
            sets.add(new ArrayList<>());
            sets.add(new ArrayList<>());
        }

        State(State from) {
            for (int t = 0; t < 4; t++) {
                mode[t] = from.mode[t];
                at[t] = from.at[t];
                interrupted[t] = from.interrupted[t];
                permit[t] = from.permit[t];
                once[t] = from.once[t];
                kept[t] = from.kept[t];
                letters.add(new ArrayList<>(from.letters.get(t)));
            }
            for (int m = 0; m < 2; m++) {
                owner[m] = from.owner[m];
                count[m] = from.count[m];
                sets.add(new ArrayList<>(from.sets.get(m)));
            }
        }

        String key() {
            StringBuilder text = new StringBuilder();
            for (int t = 0; t < 4; t++) {
                text.append(mode[t]).append(at[t]).append(interrupted[t]).append(permit[t]).append(once[t]);
                text.append(mode[t].equals("set") || mode[t].equals("returns") ? kept[t] : 0).append(letters.get(t));
            }
            for (int m = 0; m < 2; m++) {
                text.append('|').append(owner[m]).append(',').append(count[m]).append(sets.get(m));
            }
            return text.toString();
        }

        private void endIfNoneLeft(int t) {
            if (at[t] >= programs.get(t).size()) {
                mode[t] = "ended";
            }
        }

        private void next(int t) {
            mode[t] = "runs";
            at[t]++;
            endIfNoneLeft(t);
        }

        private void breakOff(int t) {
            interrupted[t] = false;
            letters.get(t).add(1);
        }

        private void outOfSet(int t, int m) {
            sets.get(m).remove(Integer.valueOf(t));
            mode[t] = "returns";
        }

        /** The state after a choice, or null if it is not allowed. */
        State after(int t, int way) {
            State to = new State(this);
            return to.make(t, way) ? to : null;
        }

        private boolean make(int t, int way) {
            if (mode[t].equals("ended")) {
                return false;
            }
            int action = programs.get(t).get(at[t])[0];
            int a = programs.get(t).get(at[t])[1];
            if (mode[t].equals("runs")) {
                return action <= 5 ? makeOnMonitor(t, way, action, a) : way == 0 && makeElse(t, action, a);
            }
            if (mode[t].equals("set")) {
                return makeInSet(t, way, action, a);
            }
            if (mode[t].equals("returns")) {
                if (way != 0 || owner[a] != -1) {
                    return false;
                }
                owner[a] = t;
                count[a] = kept[t];
                next(t);
                return true;
            }
            if (way == 1 && interrupted[t]) {
                next(t);
                return true;
            }
            if (way == 3 && loose && !once[t]) {
                once[t] = true;
                next(t);
                return true;
            }
            return false;
        }

        private boolean makeInSet(int t, int way, int action, int m) {
            if (way == 3 && action == 3) {
                letters.get(t).add(3);
            } else if (way == 1 && interrupted[t]) {
                breakOff(t);
            } else if (way == 2 && loose && !once[t]) {
                once[t] = true;
            } else {
                return false;
            }
            outOfSet(t, m);
            return true;
        }

        private boolean makeOnMonitor(int t, int way, int action, int m) {
            List<Integer> set = sets.get(m);
            boolean mine = owner[m] == t;
            boolean picks = action == 4 && mine && !set.isEmpty();
            if (picks ? way != 1 && way != 2 : way != 0) {
                return false;
            }
            if (action == 0) {
                if (owner[m] != -1 && !mine) {
                    return false;
                }
                owner[m] = t;
                count[m]++;
            } else if (!mine) {
                letters.get(t).add(0);
            } else if (action == 1) {
                count[m]--;
                owner[m] = count[m] == 0 ? -1 : t;
            } else if (action == 5 || picks) {
                List<Integer> chosen = new ArrayList<>(set);
                if (action == 4) {
                    chosen = List.of(way == 1 ? set.get(0) : set.get(set.size() - 1));
                }
                for (int other : chosen) {
                    letters.get(other).add(2);
                    outOfSet(other, m);
                }
            } else if (action == 2 || action == 3) {
                if (!interrupted[t]) {
                    kept[t] = count[m];
                    count[m] = 0;
                    owner[m] = -1;
                    set.add(t);
                    mode[t] = "set";
                    return true;
                }
                breakOff(t);
            }
            next(t);
            return true;
        }

        private boolean makeElse(int t, int action, int a) {
            if (action == 6 && !mode[a].equals("ended")) {
                interrupted[a] = true;
            }
            if (action == 7) {
                if (!permit[t] && !interrupted[t]) {
                    mode[t] = "parked";
                    return true;
                }
                permit[t] = false;
            }
            if (action == 8 && mode[a].equals("parked")) {
                next(a);
            } else if (action == 8 && !mode[a].equals("ended")) {
                permit[a] = true;
            }
            if ((action == 9 || action == 10) && interrupted[t]) {
                breakOff(t);
            } else if (action == 9 && !mode[a].equals("ended")) {
                return false;
            }
            if (action == 11) {
                letters.get(t).add(8 + a);
            }
            if (action == 12) {
                letters.get(t).add(interrupted[t] ? 4 : 5);
                interrupted[t] = false;
            }
            next(t);
            return true;
        }

        int number(int t) {
            int base = List.of("runs", "set", "returns", "parked", "ended").indexOf(mode[t]);
            return base + (interrupted[t] ? 8 : 0) + (permit[t] ? 16 : 0);
        }

        long outcome() {
            long all = 0;
            for (int t = 0; t < 4; t++) {
                long own = 1;
                for (int letter : letters.get(t)) {
                    own = own * 12 + letter;
                }
                own = own * 12 + (mode[t].equals("ended") ? 6 : 7);
                all = t == 0 ? own : all * 48611 + own;
            }
            return all;
        }
    }

    /** What a search finds. */
    static final class Found {
        int answer = 0;
        int states = 0;
        int finals = 0;
        int allEnded = 0;
        int most = 0;
        final boolean[] blocked = new boolean[4];
        final TreeSet<Long> outcomes = new TreeSet<>();
    }

    int act(int t, int action, int a) {
        if (t < 0 || t > 3 || action < 0 || action > 12) {
            return -1;
        }
        if (action <= 5 && (a < 0 || a > 1)) {
            return -1;
        }
        if (List.of(6, 8, 9, 11).contains(action) && (a < 0 || a > 3)) {
            return -1;
        }
        if (programs.get(t).size() == 6) {
            return -2;
        }
        programs.get(t).add(new int[] {action, a});
        reset();
        found = new Found();
        return programs.get(t).size();
    }

    int reset() {
        int before = made;
        made = 0;
        now = new State();
        return before;
    }

    int choose(int t, int way) {
        if (t < 0 || t > 3 || way < 0 || way > 3) {
            return -1;
        }
        State to = now.after(t, way);
        if (to == null) {
            return 0;
        }
        now = to;
        made++;
        return 1;
    }

    boolean allowed(int t, int way) {
        return t >= 0 && t <= 3 && way >= 0 && way <= 3 && now.after(t, way) != null;
    }

    int explore(int limit) {
        found = new Found();
        Set<String> seen = new HashSet<>();
        ArrayDeque<State> open = new ArrayDeque<>();
        State first = new State();
        seen.add(first.key());
        open.push(first);
        while (!open.isEmpty()) {
            State state = open.pop();
            List<State> next = nextOf(state);
            found.most = Math.max(found.most, next.size());
            if (next.isEmpty()) {
                noteFinal(state);
            }
            for (State to : next) {
                if (seen.add(to.key())) {
                    open.push(to);
                }
            }
            if (seen.size() > limit) {
                found = new Found();
                found.answer = -2;
                return found.answer;
            }
        }
        found.states = seen.size();
        found.answer = found.outcomes.size();
        return found.answer;
    }

    private static List<State> nextOf(State state) {
        List<State> next = new ArrayList<>();
        for (int t = 0; t < 4; t++) {
            for (int way = 0; way < 4; way++) {
                State to = state.after(t, way);
                if (to != null) {
                    next.add(to);
                }
            }
        }
        return next;
    }

    private void noteFinal(State state) {
        found.finals++;
        found.outcomes.add(state.outcome());
        int ended = 0;
        for (int t = 0; t < 4; t++) {
            boolean blocked = !state.mode[t].equals("ended");
            found.blocked[t] |= blocked;
            ended += blocked ? 0 : 1;
        }
        found.allEnded += ended == 4 ? 1 : 0;
    }

    List<Long> outcomes() {
        return found.outcomes.isEmpty() ? Collections.emptyList() : new ArrayList<>(found.outcomes);
    }
}
