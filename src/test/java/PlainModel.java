import java.util.ArrayDeque;
import java.util.ArrayList;
import java.util.Deque;
import java.util.HashMap;
import java.util.List;
import java.util.Map;

// The document said again, with nothing kept that can be worked out: who runs, ceilings, priorities and holders
// are found anew from what was declared and what each ready task took. ModelTest holds the program against it.
final class PlainModel {
    private static final int NONE = -1;

    private record Declared(int base, int cost, int period) {
    }

    private static final class Job {
        int turn;
        int work;
        int delay;
        boolean ready;
        final Deque<Integer> taken = new ArrayDeque<>();
    }

    private final Map<Integer, Declared> declared = new HashMap<>();
    private final Map<List<Integer>, Integer> lengths = new HashMap<>();
    private final Map<Integer, Job> jobs = new HashMap<>();
    private final List<Integer> noted = new ArrayList<>();
    private boolean sealed;
    private int clock;
    private int turns;

    private static void state(boolean wrong) {
        if (wrong) {
            throw new IllegalStateException();
        }
    }

    private static void argument(boolean wrong) {
        if (wrong) {
            throw new IllegalArgumentException();
        }
    }

    void declare(int task, int base, int cost, int period) {
        state(sealed);
        state(declared.containsKey(task));
        argument(task < 0 || task > 7);
        argument(base < 1 || base > 16);
        argument(cost < 1 || cost > 50);
        argument(period < 1 || period > 200);
        declared.put(task, new Declared(base, cost, period));
        jobs.put(task, new Job());
    }

    void mayUse(int task, int thing, int length) {
        state(sealed);
        argument(!declared.containsKey(task));
        argument(thing < 0 || thing > 5);
        argument(length < 1 || length > 50);
        lengths.put(List.of(task, thing), length);
    }

    int seal() {
        state(sealed);
        sealed = true;
        return declared.size();
    }

    int release(int task) {
        state(!sealed);
        state(jobs.containsKey(task) && jobs.get(task).ready);
        argument(!declared.containsKey(task));
        int before = running();
        Job fresh = new Job();
        fresh.ready = true;
        fresh.turn = ++turns;
        jobs.put(task, fresh);
        noteAll(1, 15, task, before);
        return turns;
    }

    int take(int thing) {
        state(!sealed);
        int runs = running();
        state(runs == NONE);
        state(holder(thing) != NONE);
        argument(!lengths.containsKey(List.of(runs, thing)));
        jobs.get(runs).taken.addLast(thing);
        noteAll(2, thing, runs, runs);
        return priority(runs);
    }

    int give(int thing) {
        int runs = running();
        state(runs == NONE);
        Deque<Integer> taken = jobs.get(runs).taken;
        argument(taken.isEmpty() || taken.getLast() != thing);
        taken.removeLast();
        noteAll(3, thing, runs, runs);
        return priority(runs);
    }

    int finish() {
        int runs = running();
        state(runs == NONE);
        state(!jobs.get(runs).taken.isEmpty());
        jobs.get(runs).ready = false;
        noteAll(4, 15, runs, runs);
        return jobs.get(runs).work;
    }

    private void noteAll(int what, int thing, int task, int ranBefore) {
        addNote(what, thing, task);
        int runs = running();
        if (runs != ranBefore) {
            addNote(5, 15, runs == NONE ? 8 : runs);
        }
    }

    private void addNote(int what, int thing, int task) {
        noted.add(4096 * (clock % 65536) + 256 * thing + 16 * task + what);
    }

    int pass(int n) {
        argument(n < 0 || n > 100);
        clock += n;
        int runs = running();
        if (runs != NONE) {
            jobs.get(runs).work += n;
            for (int task : jobs.keySet()) {
                if (jobs.get(task).ready && declared.get(task).base() > declared.get(runs).base()) {
                    jobs.get(task).delay += n;
                }
            }
        }
        return clock;
    }

    int running() {
        for (int task : jobs.keySet()) {
            if (place(task) == 0) {
                return task;
            }
        }
        return NONE;
    }

    int priority(int task) {
        if (!declared.containsKey(task)) {
            return NONE;
        }
        int greatest = declared.get(task).base();
        for (int thing : jobs.get(task).taken) {
            greatest = Math.max(greatest, ceiling(thing));
        }
        return greatest;
    }

    int place(int task) {
        if (!jobs.containsKey(task) || !jobs.get(task).ready) {
            return NONE;
        }
        int count = 0;
        for (int other : jobs.keySet()) {
            if (jobs.get(other).ready && rank(other) > rank(task)) {
                count++;
            }
        }
        return count;
    }

    private int rank(int task) {
        return 1000 * priority(task) - jobs.get(task).turn;
    }

    int ceiling(int thing) {
        if (!sealed || thing < 0 || thing > 5) {
            return NONE;
        }
        int greatest = 0;
        for (List<Integer> use : lengths.keySet()) {
            if (use.get(1) == thing) {
                greatest = Math.max(greatest, declared.get(use.get(0)).base());
            }
        }
        return greatest;
    }

    int holder(int thing) {
        for (int task : jobs.keySet()) {
            if (jobs.get(task).taken.contains(thing)) {
                return task;
            }
        }
        return NONE;
    }

    int spent(int task, int what) {
        if (!jobs.containsKey(task)) {
            return 0;
        }
        return what == 0 ? jobs.get(task).work : what == 1 ? jobs.get(task).delay : 0;
    }

    int blocking(int task) {
        if (!sealed || !declared.containsKey(task)) {
            return NONE;
        }
        int base = declared.get(task).base();
        int longest = 0;
        for (List<Integer> use : lengths.keySet()) {
            if (declared.get(use.get(0)).base() < base && ceiling(use.get(1)) >= base) {
                longest = Math.max(longest, lengths.get(use));
            }
        }
        return longest;
    }

    // By steps upwards from 1 to the first r that stays: the sum never falls as r grows, so that it is the least.
    int response(int task) {
        if (!sealed || !declared.containsKey(task)) {
            return NONE;
        }
        int r = 1;
        while (r <= declared.get(task).period()) {
            int sum = declared.get(task).cost() + blocking(task);
            for (int other : declared.keySet()) {
                Declared d = declared.get(other);
                if (other != task && d.base() >= declared.get(task).base()) {
                    sum += d.cost() * (r / d.period() + (r % d.period() == 0 ? 0 : 1));
                }
            }
            if (sum == r) {
                return r;
            }
            r = sum;
        }
        return NONE;
    }

    int notes() {
        return noted.size();
    }

    int note(int k) {
        return k < 0 || k >= 40 || k >= noted.size() ? NONE : noted.get(noted.size() - 1 - k);
    }
}
