// Drives an object with tasks that keep to what was declared of them: each works for its cost, at least its period
// lies between two of its releases, and it holds no thing for longer work than was told. It counts what it sees.
final class Driver {
    private static final int TASKS = 8;
    private static final int THINGS = 3;
    // The driver looks at it between calls, a few at a time: so an object stays within its 512.
    private static final int CALLS = 490;
    private static final int NOT_BEFORE_ITS_END = Integer.MAX_VALUE;

    private final CeilingDispatch x = new CeilingDispatch();
    private final int[] cost = new int[TASKS];
    private final int[] period = new int[TASKS];
    private final int[][] lengths = new int[TASKS][THINGS];
    private final int[] blocking = new int[TASKS];
    private final int[] response = new int[TASKS];
    private final int[] nextRelease = new int[TASKS];
    private final int[] releasedAt = new int[TASKS];
    private final Job[] jobs = new Job[TASKS];
    private final int tasks;
    private long seed;
    private int calls = 0;
    private int clock = 0;

    int taken = 0;
    int foundTaken = 0;
    int keptLonger = 0;
    int keptJustSoLong = 0;
    int endedLater = 0;
    int endedJustSoLate = 0;

    // What a task does from a release on: at some points of its work it takes a thing or gives it back.
    private static final class Job {
        private final int[] points = new int[4];
        private final int[] things = new int[4];
        private final boolean[] takes = new boolean[4];
        private int deeds = 0;
        private int done = 0;
        private int work = 0;

        void add(int point, int thing, boolean take) {
            points[deeds] = point;
            things[deeds] = thing;
            takes[deeds] = take;
            deeds++;
        }

        boolean isDue() {
            return done < deeds && points[done] == work;
        }

        int workLeft(int cost) {
            return (done < deeds ? points[done] : cost) - work;
        }
    }

    private Driver(long seed) {
        this.seed = seed;
        this.tasks = 2 + below(5);
    }

    static Driver driven(long seed) {
        Driver it = new Driver(seed);
        it.setUp();
        while (it.calls < CALLS && it.foundTaken == 0) {
            // First what is over at this time: else a release of the same time would put off an end that is here.
            it.workOff();
            it.releaseWhatIsDue();
            it.passUntilSomethingIsDue(it.workOff());
        }
        return it;
    }

    // By a fixed rule, so that every run of a test makes the same calls.
    private int below(int bound) {
        seed = seed * 6364136223846793005L + 1442695040888963407L;
        return (int) Math.floorMod(seed >>> 33, (long) bound);
    }

    private void setUp() {
        for (int task = 0; task < tasks; task++) {
            cost[task] = 1 + below(12);
            period[task] = 10 + below(90);
            x.declare(task, 1 + below(6), cost[task], period[task]);
            for (int thing = 0; thing < THINGS; thing++) {
                if (below(2) == 0) {
                    lengths[task][thing] = 1 + below(cost[task]);
                    x.mayUse(task, thing, lengths[task][thing]);
                }
            }
            nextRelease[task] = below(2) * below(20);
        }
        x.seal();
        for (int task = 0; task < tasks; task++) {
            blocking[task] = x.blocking(task);
            response[task] = x.response(task);
        }
        calls = tasks * (3 + THINGS) + 1;
    }

    private void releaseWhatIsDue() {
        for (int task = 0; task < tasks; task++) {
            if (nextRelease[task] <= clock) {
                x.release(task);
                calls++;
                jobs[task] = newJob(task);
                releasedAt[task] = clock;
                nextRelease[task] = NOT_BEFORE_ITS_END;
            }
        }
    }

    // It holds one thing for some time, and perhaps another one within that time.
    private Job newJob(int task) {
        Job job = new Job();
        int outer = below(THINGS);
        int inner = (outer + 1 + below(THINGS - 1)) % THINGS;
        int outerLength = lengths[task][outer];
        int innerLength = lengths[task][inner];
        if (outerLength == 0) {
            return job;
        }
        int start = below(cost[task] - outerLength + 1);
        job.add(start, outer, true);
        if (innerLength > 0 && innerLength <= outerLength) {
            int innerStart = start + below(outerLength - innerLength + 1);
            job.add(innerStart, inner, true);
            job.add(innerStart + innerLength, inner, false);
        }
        job.add(start + outerLength, outer, false);
        return job;
    }

    // All that takes no time; answers the task that runs then.
    private int workOff() {
        int runs = running();
        while (runs != CeilingDispatch.NONE && calls < CALLS && foundTaken == 0) {
            if (jobs[runs].isDue()) {
                doWhatIsDue(jobs[runs]);
            } else if (jobs[runs].work == cost[runs]) {
                finish(runs);
            } else {
                return runs;
            }
            runs = running();
        }
        return runs;
    }

    private int running() {
        calls++;
        return x.running();
    }

    private void doWhatIsDue(Job job) {
        int thing = job.things[job.done];
        calls++;
        if (!job.takes[job.done]) {
            x.give(thing);
        } else if (Check.thrownBy(() -> x.take(thing)).equals("nothing")) {
            taken++;
        } else {
            foundTaken++;
        }
        job.done++;
    }

    private void finish(int task) {
        x.finish();
        int delay = x.spent(task, 1);
        calls += 2;
        keptLonger += delay > blocking[task] ? 1 : 0;
        keptJustSoLong += delay > 0 && delay == blocking[task] ? 1 : 0;
        if (response[task] != CeilingDispatch.NONE) {
            endedLater += clock - releasedAt[task] > response[task] ? 1 : 0;
            endedJustSoLate += clock - releasedAt[task] == response[task] ? 1 : 0;
        }
        nextRelease[task] = Math.max(clock, releasedAt[task] + period[task]) + below(2) * below(10);
    }

    private void passUntilSomethingIsDue(int runs) {
        int n = runs == CeilingDispatch.NONE ? 100 : jobs[runs].workLeft(cost[runs]);
        for (int task = 0; task < tasks; task++) {
            n = Math.min(n, nextRelease[task] - clock);
        }
        if (runs != CeilingDispatch.NONE) {
            jobs[runs].work += n;
        }
        clock = x.pass(n);
        calls++;
    }
}
