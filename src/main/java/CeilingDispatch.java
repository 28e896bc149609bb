/**
 * Tasks of fixed priorities on one processor that share things by ceilings.
 * Every row is made in the constructor and used again: no later call makes an object but for what it throws.
 */
public final class CeilingDispatch {
    public static final int NONE = -1;
    public static final int RELEASED = 1, TAKEN = 2, GIVEN = 3, FINISHED = 4, RUNS = 5;

    private static final int TASKS = 8;
    private static final int THINGS = 6;
    private static final int MOST_BASE = 16;
    private static final int MOST_COST = 50;
    private static final int MOST_PERIOD = 200;
    private static final int MOST_LENGTH = 50;
    private static final int MOST_PASS = 100;
    private static final int NOTES_KEPT = 40;
    private static final int NO_THING_IN_NOTE = 15;
    private static final int NO_TASK_IN_NOTE = 8;
    private static final int WORK = 0;
    private static final int DELAY = 1;

    private final Task[] tasks = new Task[TASKS];
    private final Thing[] things = new Thing[THINGS];
    private final NoteBook book = new NoteBook();
    private boolean sealed = false;
    private int clock = 0;
    private int releases = 0;
    private int runner = NONE;

    public CeilingDispatch() {
        for (int i = 0; i < TASKS; i++) {
            tasks[i] = new Task();
        }
        for (int i = 0; i < THINGS; i++) {
            things[i] = new Thing();
        }
    }

    public void declare(int task, int base, int cost, int period)
            throws IllegalStateException, IllegalArgumentException {
        if (sealed || isDeclared(task)) {
            throw new IllegalStateException("sealed, or the task is declared");
        }
        if (!isIn(task, 0, TASKS - 1) || !isIn(base, 1, MOST_BASE)
                || !isIn(cost, 1, MOST_COST) || !isIn(period, 1, MOST_PERIOD)) {
            throw new IllegalArgumentException("no such task, base, cost or period");
        }
        Task declared = tasks[task];
        declared.base = base;
        declared.cost = cost;
        declared.period = period;
    }

    public void mayUse(int task, int thing, int length)
            throws IllegalStateException, IllegalArgumentException {
        if (sealed) {
            throw new IllegalStateException("sealed");
        }
        if (!isDeclared(task) || !isThing(thing) || !isIn(length, 1, MOST_LENGTH)) {
            throw new IllegalArgumentException("the task is not declared, or no such thing or length");
        }
        tasks[task].lengths[thing] = length;
    }

    public int seal() throws IllegalStateException {
        if (sealed) {
            throw new IllegalStateException("sealed");
        }
        sealed = true;
        for (int i = 0; i < THINGS; i++) {
            things[i].ceiling = greatestBaseOfUsers(i);
        }
        return countDeclared();
    }

    public int release(int task) throws IllegalStateException, IllegalArgumentException {
        if (!sealed || isReady(task)) {
            throw new IllegalStateException("not sealed, or the task is ready");
        }
        if (!isDeclared(task)) {
            throw new IllegalArgumentException("the task is not declared");
        }
        releases++;
        tasks[task].makeReady(releases);
        happened(RELEASED, task, NO_THING_IN_NOTE);
        return releases;
    }

    public int take(int thing) throws IllegalStateException, IllegalArgumentException {
        if (!sealed || runner == NONE || isHeld(thing)) {
            throw new IllegalStateException("not sealed, no task runs, or the thing is held");
        }
        if (!isThing(thing) || !tasks[runner].isUserOf(thing)) {
            throw new IllegalArgumentException("no such thing, or the task that runs may not use it");
        }
        Task taker = tasks[runner];
        Thing taken = things[thing];
        taken.holder = runner;
        taken.takenBefore = taker.lastTaken;
        taken.priorityBefore = taker.priority;
        taker.lastTaken = thing;
        taker.priority = Math.max(taker.priority, taken.ceiling);
        happened(TAKEN, runner, thing);
        return taker.priority;
    }

    public int give(int thing) throws IllegalStateException, IllegalArgumentException {
        if (runner == NONE) {
            throw new IllegalStateException("no task runs");
        }
        if (!isThing(thing) || tasks[runner].lastTaken != thing) {
            throw new IllegalArgumentException("not the thing that the task that runs took last");
        }
        Task giver = tasks[runner];
        Thing given = things[thing];
        giver.lastTaken = given.takenBefore;
        giver.priority = given.priorityBefore;
        given.holder = NONE;
        happened(GIVEN, runner, thing);
        return giver.priority;
    }

    public int finish() throws IllegalStateException {
        if (runner == NONE || tasks[runner].lastTaken != NONE) {
            throw new IllegalStateException("no task runs, or it holds something");
        }
        Task finished = tasks[runner];
        finished.ready = false;
        happened(FINISHED, runner, NO_THING_IN_NOTE);
        return finished.work;
    }

    public int pass(int n) throws IllegalArgumentException {
        if (!isIn(n, 0, MOST_PASS)) {
            throw new IllegalArgumentException("the clock can not go on by that");
        }
        clock += n;
        if (runner != NONE) {
            tasks[runner].work += n;
            delayMoreUrgentThan(tasks[runner].base, n);
        }
        return clock;
    }

    public int running() {
        return runner;
    }

    public int priority(int task) {
        if (!isDeclared(task)) {
            return NONE;
        }
        return tasks[task].ready ? tasks[task].priority : tasks[task].base;
    }

    public int place(int task) {
        if (!isReady(task)) {
            return NONE;
        }
        int before = 0;
        for (int i = 0; i < TASKS; i++) {
            if (tasks[i].ready && tasks[i].goesBefore(tasks[task])) {
                before++;
            }
        }
        return before;
    }

    public int ceiling(int thing) {
        return sealed && isThing(thing) ? things[thing].ceiling : NONE;
    }

    public int holder(int thing) {
        return isThing(thing) ? things[thing].holder : NONE;
    }

    public int spent(int task, int what) {
        if (!isDeclared(task)) {
            return 0;
        }
        if (what == WORK) {
            return tasks[task].work;
        }
        return what == DELAY ? tasks[task].delay : 0;
    }

    public int blocking(int task) {
        return sealed && isDeclared(task) ? longestBlockingAt(tasks[task].base) : NONE;
    }

    public int response(int task) {
        if (!sealed || !isDeclared(task)) {
            return NONE;
        }
        int alone = tasks[task].cost + longestBlockingAt(tasks[task].base);
        for (int r = 1; r <= tasks[task].period; r++) {
            if (alone + demandOfOthers(task, r) == r) {
                return r;
            }
        }
        return NONE;
    }

    public int notes() {
        return book.made;
    }

    public int note(int k) {
        return book.fromLatest(k);
    }

    private static boolean isIn(int value, int least, int most) {
        return value >= least && value <= most;
    }

    private static boolean isThing(int thing) {
        return isIn(thing, 0, THINGS - 1);
    }

    private boolean isDeclared(int task) {
        return isIn(task, 0, TASKS - 1) && tasks[task].isDeclared();
    }

    private boolean isReady(int task) {
        return isIn(task, 0, TASKS - 1) && tasks[task].ready;
    }

    private boolean isHeld(int thing) {
        return isThing(thing) && things[thing].holder != NONE;
    }

    private int countDeclared() {
        int count = 0;
        for (int i = 0; i < TASKS; i++) {
            if (tasks[i].isDeclared()) {
                count++;
            }
        }
        return count;
    }

    private int greatestBaseOfUsers(int thing) {
        int greatest = 0;
        for (int i = 0; i < TASKS; i++) {
            if (tasks[i].isUserOf(thing)) {
                greatest = Math.max(greatest, tasks[i].base);
            }
        }
        return greatest;
    }

    private void happened(int what, int task, int thing) {
        book.write(what, task, thing, clock);
        int next = mostUrgent();
        if (next != runner) {
            runner = next;
            book.write(RUNS, next == NONE ? NO_TASK_IN_NOTE : next, NO_THING_IN_NOTE, clock);
        }
    }

    private int mostUrgent() {
        int first = NONE;
        for (int i = 0; i < TASKS; i++) {
            if (tasks[i].ready && (first == NONE || tasks[i].goesBefore(tasks[first]))) {
                first = i;
            }
        }
        return first;
    }

    private void delayMoreUrgentThan(int base, int n) {
        for (int i = 0; i < TASKS; i++) {
            if (tasks[i].ready && tasks[i].base > base) {
                tasks[i].delay += n;
            }
        }
    }

    private int longestBlockingAt(int base) {
        int longest = 0;
        for (int i = 0; i < TASKS; i++) {
            if (tasks[i].base < base) {
                longest = Math.max(longest, longestUseOfCeiling(tasks[i], base));
            }
        }
        return longest;
    }

    private int longestUseOfCeiling(Task user, int leastCeiling) {
        int longest = 0;
        for (int i = 0; i < THINGS; i++) {
            if (things[i].ceiling >= leastCeiling) {
                longest = Math.max(longest, user.lengths[i]);
            }
        }
        return longest;
    }

    private int demandOfOthers(int task, int r) {
        int demand = 0;
        for (int i = 0; i < TASKS; i++) {
            if (i != task && tasks[i].base >= tasks[task].base) {
                demand += tasks[i].demandIn(r);
            }
        }
        return demand;
    }

    private static final class Task {
        private int base = 0;
        private int cost = 0;
        private int period = 0;
        private final int[] lengths = new int[THINGS];
        private boolean ready = false;
        private int priority = 0;
        private int turn = 0;
        private int lastTaken = NONE;
        private int work = 0;
        private int delay = 0;

        // The period tells it, because it is what demandIn divides by.
        boolean isDeclared() {
            return period > 0;
        }

        boolean isUserOf(int thing) {
            return lengths[thing] > 0;
        }

        void makeReady(int newTurn) {
            ready = true;
            priority = base;
            turn = newTurn;
            work = 0;
            delay = 0;
        }

        boolean goesBefore(Task other) {
            return priority > other.priority || (priority == other.priority && turn < other.turn);
        }

        int demandIn(int r) {
            return isDeclared() ? cost * ((r + period - 1) / period) : 0;
        }
    }

    // A holder's things are a chain from its last one backwards: no row of them has to be kept for each task.
    private static final class Thing {
        private int ceiling = 0;
        private int holder = NONE;
        private int takenBefore = NONE;
        private int priorityBefore = 0;
    }

    private static final class NoteBook {
        private static final int CLOCK_TURNS_OVER = 65536;

        private final int[] kept = new int[NOTES_KEPT];
        private int made = 0;

        void write(int what, int task, int thing, int clock) {
            kept[Math.floorMod(made, NOTES_KEPT)] =
                    4096 * Math.floorMod(clock, CLOCK_TURNS_OVER) + 256 * thing + 16 * task + what;
            made++;
        }

        int fromLatest(int k) {
            if (k < 0 || k >= NOTES_KEPT || k >= made) {
                return NONE;
            }
            return kept[Math.floorMod(made - 1 - k, NOTES_KEPT)];
        }
    }
}
