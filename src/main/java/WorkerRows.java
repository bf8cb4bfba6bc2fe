/**
 * Workers that stay: started for a tool's edition, given requests one by one, and ended when they
 * can't be used any more; samples compare what a warm one gave with a fresh run.
 */
public final class WorkerRows {
    public static final int NONE = -1;

    private static final int TOOL_LIMIT = 6;
    private static final int WORKER_LIMIT = 60;
    private static final int REQUEST_LIMIT = 100;
    private static final int SIZE_LIMIT = 1000;
    private static final int TICK_LIMIT = 10000;
    private static final int CLOCK_LIMIT = 1000000000;
    private static final int BARS_TO_BE_BARRED = 3;

    private static final long ONE_SHOT_FACTOR = 0x9E3779B97F4A7C15L;
    private static final int ONE_SHOT_SHIFT = 31;
    private static final int ONE_SHOT_ROUNDS = 2;

    // What a request is, as about(request, 0) answers it.
    private static final int WAITING = 0;
    private static final int RUNNING = 1;
    private static final int DONE = 2;
    private static final int CANCELLED = 3;

    // What a worker is, as worker(worker, 1) answers it.
    private static final int FREE = 0;
    private static final int BUSY = 1;
    private static final int ENDED = 2;

    // Why a worker ended, as worker(worker, 5) answers it.
    private static final int NOT_ENDED = 0;
    private static final int BY_EDITION = 1;
    private static final int BY_MEMORY = 2;
    private static final int BY_CRASH = 3;
    private static final int BY_IDLENESS = 4;
    private static final int BY_SAMPLE = 5;

    // What cancel answers.
    private static final int TOO_LATE = 0;
    private static final int CANCELLED_AT_ONCE = 1;
    private static final int NOW_UNWANTED = 2;

    private static final class Tool {
        final int number;
        long edition;
        int quirk;
        int bars;

        Tool(int number, long edition, int quirk) {
            this.number = number;
            this.edition = edition;
            this.quirk = quirk;
        }
    }

    private static final class Worker {
        final int number;
        final Tool tool;
        final long edition;
        int finished;
        int trusted;
        int memory;
        int freeSince;
        int endedBy;
        /** Null unless the worker is BUSY. */
        Request request;

        Worker(int number, Tool tool) {
            this.number = number;
            this.tool = tool;
            this.edition = tool.edition;
        }
    }

    private static final class Request {
        final int number;
        final Tool tool;
        final long input;
        final int size;
        int state;
        int begun;
        boolean unwanted;
        boolean redone;
        long result;
        /** By which it is RUNNING or DONE; else null. */
        Worker worker;
        /** The how-manieth it was that its worker finished, from 1. */
        int place;

        Request(int number, Tool tool, long input, int size) {
            this.number = number;
            this.tool = tool;
            this.input = input;
            this.size = size;
        }
    }

    private final int most;
    private final int bound;
    private final int idle;
    private int clock;

    // Rows are filled from 0 on and never emptied; what is not there yet is null.
    private final Tool[] tools = new Tool[TOOL_LIMIT];
    private final Worker[] workers = new Worker[WORKER_LIMIT];
    private final Request[] requests = new Request[REQUEST_LIMIT];
    private int toolCount;
    private int workerCount;
    private int requestCount;

    public WorkerRows(int most, int bound, int idle) {
        this.most = nearest(most, 1, 4);
        this.bound = nearest(bound, 0, 100000);
        this.idle = nearest(idle, 1, 1000);
    }

    public int tool(long edition, int quirk) {
        if (toolCount >= tools.length) {
            return NONE;
        }
        Tool added = new Tool(toolCount, edition, quirk);
        tools[toolCount] = added;
        toolCount++;
        return added.number;
    }

    public int edition(int tool, long edition) {
        Tool found = toolAt(tool);
        if (found == null) {
            return NONE;
        }
        found.edition = edition;
        int ended = 0;
        for (Worker each : workers) {
            if (each != null && each.tool == found && !isEnded(each)) {
                endAndRequeue(each, BY_EDITION);
                ended++;
            }
        }
        return ended;
    }

    public boolean quirk(int tool, int quirk) {
        Tool found = toolAt(tool);
        if (found == null) {
            return false;
        }
        found.quirk = quirk;
        return true;
    }

    public int request(int tool, long input, int size) {
        Tool found = toolAt(tool);
        if (found == null || requestCount >= requests.length || size < 0 || size > SIZE_LIMIT) {
            return NONE;
        }
        Request added = new Request(requestCount, found, input, size);
        requests[requestCount] = added;
        requestCount++;
        return added.number;
    }

    public int cancel(int request) {
        Request found = requestAt(request);
        if (found == null) {
            return NONE;
        }
        if (found.state == WAITING) {
            becomeCancelled(found);
            return CANCELLED_AT_ONCE;
        }
        if (found.state == RUNNING) {
            found.unwanted = true;
            return NOW_UNWANTED;
        }
        return TOO_LATE;
    }

    public int step() {
        int moved = 0;
        for (Request each : requests) {
            if (each != null && each.state == WAITING && moveOn(each)) {
                moved++;
            }
        }
        return moved;
    }

    public int finish(int worker) {
        Worker found = workerAt(worker);
        if (found == null || found.request == null) {
            return NONE;
        }
        Request served = found.request;
        long given = whatItGives(found, served);
        found.request = null;
        found.finished++;
        found.memory += served.size;
        served.place = found.finished;
        leaveDone(served, found, given);
        if (found.memory > bound) {
            found.endedBy = BY_MEMORY;
        } else {
            found.freeSince = clock;
        }
        return served.number;
    }

    public int crash(int worker) {
        Worker found = workerAt(worker);
        if (found == null || isEnded(found)) {
            return NONE;
        }
        Request left = found.request;
        found.request = null;
        found.endedBy = BY_CRASH;
        if (left != null) {
            leaveDone(left, null, freshRun(found.edition, left.input));
        }
        return 1;
    }

    public int tick(int n) {
        if (n < 0 || n > TICK_LIMIT || clock > CLOCK_LIMIT - n) {
            return NONE;
        }
        // No worker becomes free during a tick, so all n may be taken at once.
        clock += n;
        int ended = 0;
        for (Worker each : workers) {
            if (each != null && stateOf(each) == FREE && clock - each.freeSince >= idle) {
                each.endedBy = BY_IDLENESS;
                ended++;
            }
        }
        return ended;
    }

    public int sample(int request) {
        Request found = requestAt(request);
        if (found == null || found.state != DONE || found.worker == null) {
            return NONE;
        }
        Worker by = found.worker;
        if (found.result == freshRun(by.edition, found.input)) {
            // An earlier one that is the same takes no trust from later ones.
            by.trusted = Math.max(by.trusted, found.place);
            return 0;
        }
        int redone = redoUntrusted(found, by);
        if (!isEnded(by)) {
            endAndRequeue(by, BY_SAMPLE);
        }
        by.tool.bars++;
        return redone;
    }

    public int about(int request, int what) {
        Request found = requestAt(request);
        if (found == null) {
            return NONE;
        }
        switch (what) {
            case 0:
                return found.state;
            case 1:
                return found.worker == null ? NONE : found.worker.number;
            case 2:
                return found.begun;
            case 3:
                return found.unwanted ? 1 : 0;
            case 4:
                return found.redone ? 1 : 0;
            default:
                return NONE;
        }
    }

    public long result(int request) {
        Request found = requestAt(request);
        if (found == null || found.state != DONE) {
            return 0L;
        }
        return found.result;
    }

    public int worker(int worker, int what) {
        Worker found = workerAt(worker);
        if (found == null) {
            return NONE;
        }
        switch (what) {
            case 0:
                return found.tool.number;
            case 1:
                return stateOf(found);
            case 2:
                return found.finished;
            case 3:
                return found.memory;
            case 4:
                return found.request == null ? NONE : found.request.number;
            case 5:
                return found.endedBy;
            case 6:
                return found.trusted;
            default:
                return NONE;
        }
    }

    public int bars(int tool) {
        Tool found = toolAt(tool);
        return found == null ? NONE : found.bars;
    }

    public long oneShot(long edition, long input) {
        return freshRun(edition, input);
    }

    private static int nearest(int value, int least, int greatest) {
        return Math.max(least, Math.min(greatest, value));
    }

    /** ONE-SHOT of an edition and an input. */
    private static long freshRun(long edition, long input) {
        long r = edition ^ input;
        for (int round = 0; round < ONE_SHOT_ROUNDS; round++) {
            r = (r ^ (r >>> ONE_SHOT_SHIFT)) * ONE_SHOT_FACTOR;
        }
        return r + input;
    }

    private static long whatItGives(Worker worker, Request request) {
        // As a long, since a quirk times a count may be beyond an int.
        long drift = (long) worker.tool.quirk * worker.finished;
        return freshRun(worker.edition, request.input) + drift;
    }

    /** Null if there is none such; likewise for workers and requests. */
    private Tool toolAt(int number) {
        return number < 0 || number >= tools.length ? null : tools[number];
    }

    private Worker workerAt(int number) {
        return number < 0 || number >= workers.length ? null : workers[number];
    }

    private Request requestAt(int number) {
        return number < 0 || number >= requests.length ? null : requests[number];
    }

    private static boolean isEnded(Worker worker) {
        return worker.endedBy != NOT_ENDED;
    }

    private static int stateOf(Worker worker) {
        if (isEnded(worker)) {
            return ENDED;
        }
        return worker.request == null ? FREE : BUSY;
    }

    /** Begins a waiting request or does it at once; false if it waits on. */
    private boolean moveOn(Request request) {
        Tool tool = request.tool;
        if (tool.bars >= BARS_TO_BE_BARRED) {
            leaveDone(request, null, freshRun(tool.edition, request.input));
            return true;
        }
        Worker worker = firstFree(tool);
        if (worker == null) {
            worker = startWorker(tool);
        }
        if (worker == null) {
            return false;
        }
        beginWith(request, worker);
        return true;
    }

    private Worker firstFree(Tool tool) {
        for (Worker each : workers) {
            if (each != null && each.tool == tool && stateOf(each) == FREE) {
                return each;
            }
        }
        return null;
    }

    /** Null if the tool has as many as it may, or no number is left for one more. */
    private Worker startWorker(Tool tool) {
        if (workerCount >= workers.length || countStaying(tool) >= most) {
            return null;
        }
        Worker started = new Worker(workerCount, tool);
        workers[workerCount] = started;
        workerCount++;
        return started;
    }

    private int countStaying(Tool tool) {
        int staying = 0;
        for (Worker each : workers) {
            if (each != null && each.tool == tool && !isEnded(each)) {
                staying++;
            }
        }
        return staying;
    }

    private static void beginWith(Request request, Worker worker) {
        worker.request = request;
        request.worker = worker;
        request.state = RUNNING;
        request.begun++;
    }

    /** A request gets its result, by a worker or by none (null), unless nobody wants it any more. */
    private static void leaveDone(Request request, Worker by, long result) {
        if (request.unwanted) {
            becomeCancelled(request);
            return;
        }
        request.state = DONE;
        request.worker = by;
        request.result = result;
    }

    private static void waitAgain(Request request) {
        if (request.unwanted) {
            becomeCancelled(request);
            return;
        }
        request.state = WAITING;
        request.worker = null;
    }

    private static void becomeCancelled(Request request) {
        request.state = CANCELLED;
        request.worker = null;
        request.unwanted = false;
    }

    private static void endAndRequeue(Worker worker, int why) {
        Request left = worker.request;
        worker.request = null;
        worker.endedBy = why;
        if (left != null) {
            waitAgain(left);
        }
    }

    /** Redoes the sampled one, also if it was trusted, and all that stand behind the trusted ones. */
    private int redoUntrusted(Request sampled, Worker by) {
        int redone = 0;
        for (Request each : requests) {
            if (each != null && each.state == DONE && each.worker == by
                    && (each == sampled || each.place > by.trusted)) {
                each.result = freshRun(by.edition, each.input);
                each.worker = null;
                each.redone = true;
                redone++;
            }
        }
        return redone;
    }
}
