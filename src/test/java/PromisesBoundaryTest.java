import java.util.function.ToLongFunction;

/**
 * A method for each sentence of the promises that names a boundary or a refusal: the last value within and
 * the first beyond; and that a call which is refused leaves everything as it was.
 */
public final class PromisesBoundaryTest extends Scenes {
    private static final int[] NO_TOOL = {-1, 2, 5, 6, Integer.MIN_VALUE, Integer.MAX_VALUE};
    private static final int[] NO_WORKER = {-1, 8, 59, 60, Integer.MIN_VALUE, Integer.MAX_VALUE};
    private static final int[] NO_REQUEST = {-1, 12, 99, 100, Integer.MIN_VALUE, Integer.MAX_VALUE};

    public static void main(String[] args) {
        theMixedSceneIsAsTold();
        mostIsTheNearest();
        boundIsTheNearest();
        idleIsTheNearest();
        clockIsNought();
        toolIfThereAreSix();
        editionAlsoTheSame();
        editionOfNoTool();
        quirkOfNoTool();
        quirkOfTheLastTool();
        requestIfThereAreAHundred();
        requestOfNoTool();
        requestOfAWrongSize();
        cancelOfAWaitingOne();
        cancelOfARunningOne();
        cancelOfADoneOrCancelledOne();
        cancelOfNoRequest();
        stepOfNone();
        stepOfMany();
        finishOfNoWorker();
        finishOfOneThatIsNotBusy();
        crashOfNoWorker();
        crashOfAnEndedOne();
        tickOfNoneAndOfMost();
        tickOfTooFewOrTooMany();
        tickEndsAllAtOnce();
        tickUpToTheClocksLimit();
        sampleOfNoRequest();
        sampleOfOneNotDoneByAWorker();
        aboutOfNoRequest();
        aboutAnotherWhat();
        aboutWorkerOrNone();
        aboutHowOftenBegun();
        aboutUnwantedWhileRunningAlone();
        resultOfOneThatIsNotDone();
        resultOfNoRequest();
        resultThatIsNoughtItself();
        workerOfNoWorker();
        workerAnotherWhat();
        workerRequestOrNone();
        workerWhyEnded();
        barsOfNoTool();
        oneShotChangesNothing();
        Check.end();
    }

    /**
     * Two tools, eight workers, twelve requests; IDLE is 10, BOUND is 500. Workers 0 to 4 ended by 5, 2, 3, 4, 1;
     * 5 is BUSY with 7 (UNWANTED), 6 with 9; 7 is FREE for 3 ticks. Requests 0 and 2 are REDONE, 4 is DONE by a
     * crash, 6 is CANCELLED, 11 WAITS, the others are DONE by a worker.
     */
    private static WorkerRows mixed() {
        WorkerRows x = new WorkerRows(3, 500, 10);
        x.tool(11, 3);
        x.tool(22, 0);
        x.request(0, 100, 1);
        x.request(0, 101, 2);
        x.step();
        x.finish(0);
        beginAnother(x, 0, 3);
        x.finish(0);
        x.sample(2);
        x.finish(1);
        beginAnother(x, 0, 499);
        x.finish(1);
        beginAnother(x, 0, 5);
        x.crash(2);
        beginAnother(x, 1, 6);
        x.finish(3);
        x.tick(10);
        beginAnother(x, 1, 7);
        x.edition(1, 23);
        x.cancel(6);
        beginAnother(x, 1, 8);
        x.cancel(7);
        beginAnother(x, 0, 9);
        x.finish(6);
        x.request(0, 300, 10);
        beginAnother(x, 0, 11);
        x.finish(7);
        x.tick(3);
        x.request(1, 400, 12);
        return x;
    }

    private static void beginAnother(WorkerRows x, int tool, int size) {
        x.request(tool, 200, size);
        x.step();
    }

    private static void theMixedSceneIsAsTold() {
        says("the scene that refused calls are tried in");
        WorkerRows x = mixed();
        int[] why = {5, 2, 3, 4, 1, 0, 0, 0};
        for (int worker = 0; worker < why.length; worker++) {
            due("why worker " + worker + " ended", x.worker(worker, 5), why[worker]);
        }
        int[] state = {DONE, DONE, DONE, DONE, DONE, DONE, CANCELLED, RUNNING, DONE, RUNNING, DONE, WAITING};
        int[] by = {NONE, 1, NONE, 1, NONE, 3, NONE, 5, 6, 6, 7, NONE};
        for (int request = 0; request < state.length; request++) {
            due("state of " + request, x.about(request, 0), state[request]);
            due("worker of " + request, x.about(request, 1), by[request]);
        }
        due("unwanted", x.about(7, 3), 1);
        due("a free one", x.worker(7, 1), FREE);
        due("no worker 8", x.worker(8, 0), NONE);
        due("no request 12", x.about(12, 0), NONE);
    }

    /** What an object answers from here on, so that what it doesn't tell (clock, editions, quirks) shows too. */
    private static String future(WorkerRows x) {
        StringBuilder all = new StringBuilder();
        all.append(x.tick(6)).append(' ').append(x.tick(1)).append(' ').append(x.finish(6));
        all.append(' ').append(x.request(0, 1, 1)).append(' ').append(x.request(1, 1, 1));
        all.append(' ').append(x.step()).append(' ').append(x.finish(6)).append(' ').append(x.finish(5));
        all.append(' ').append(x.step()).append(' ').append(x.finish(8)).append(' ').append(x.crash(6));
        all.append(' ').append(x.request(0, 2, 2)).append(' ').append(x.step()).append(' ').append(x.crash(10));
        all.append(' ').append(x.tool(7, 7));
        return all.append(allOf(x)).toString();
    }

    /** The call is answered so, and all that follows is as if it had not been made. */
    private static void refused(String call, ToLongFunction<WorkerRows> made, long want) {
        WorkerRows x = mixed();
        String before = allOf(x);
        due(call, made.applyAsLong(x), want);
        holds(call + " changes nothing that is told", allOf(x).equals(before));
        WorkerRows without = mixed();
        holds(call + " changes nothing that follows", future(x).equals(future(without)));
    }

    // Promise 1

    private static void mostIsTheNearest() {
        says("MOST 1 .. 4 (beyond that the nearest)");
        int[] given = {Integer.MIN_VALUE, -1, 0, 1, 2, 3, 4, 5, Integer.MAX_VALUE};
        int[] taken = {1, 1, 1, 1, 2, 3, 4, 4, 4};
        for (int i = 0; i < given.length; i++) {
            due("begun with most " + given[i], withRequests(given[i], 1, 0, 9).step(), taken[i]);
        }
    }

    private static void boundIsTheNearest() {
        says("a BOUND 0 .. 100000 for MEMORY (beyond that the nearest)");
        for (int bound : new int[] {Integer.MIN_VALUE, -1, 0}) {
            due("size 0 at bound " + bound, endedAfter(bound, 0, 1), 0);
            due("size 1 at bound " + bound, endedAfter(bound, 1, 1), 2);
        }
        due("size 1 at bound 1", endedAfter(1, 1, 1), 0);
        due("size 2 at bound 1", endedAfter(1, 2, 1), 2);
        due("memory 100000 at bound 99999", endedAfter(99999, 1000, 100), 2);
        for (int bound : new int[] {100000, 100001, Integer.MAX_VALUE}) {
            due("memory 100000 at bound " + bound, endedAfter(bound, 1000, 100), 0);
        }
    }

    private static int endedAfter(int bound, int size, int requests) {
        WorkerRows x = new WorkerRows(1, bound, 10);
        x.tool(1, 0);
        for (int i = 0; i < requests; i++) {
            x.request(0, i, size);
        }
        serve(x, requests);
        due("memory", x.worker(0, 3), size * requests);
        return x.worker(0, 5);
    }

    private static void idleIsTheNearest() {
        says("IDLE 1 .. 1000 (beyond that the nearest)");
        int[] given = {Integer.MIN_VALUE, -1, 0, 1, 2, 999, 1000, 1001, Integer.MAX_VALUE};
        int[] taken = {1, 1, 1, 1, 2, 999, 1000, 1000, 1000};
        for (int i = 0; i < given.length; i++) {
            WorkerRows x = new WorkerRows(1, 10, given[i]);
            x.tool(1, 0);
            x.request(0, 1, 0);
            serve(x, 1);
            due("no tick with idle " + given[i], x.tick(0), 0);
            due("a tick before idle " + given[i], x.tick(taken[i] - 1), 0);
            due("idle " + given[i], x.tick(1), 1);
        }
    }

    private static void clockIsNought() {
        says("CLOCK 0");
        WorkerRows x = new WorkerRows(1, 10, 1000);
        x.tool(1, 0);
        x.request(0, 1, 0);
        serve(x, 1);
        due("free since 0", x.tick(999), 0);
        due("free since 0", x.tick(1), 1);
    }

    // Promise 2

    private static void toolIfThereAreSix() {
        says("A new TOOL: its number; NONE if there are 6");
        WorkerRows x = mixed();
        for (int i = 2; i < 6; i++) {
            due("tool", x.tool(Long.MAX_VALUE, Integer.MAX_VALUE), i);
        }
        String before = allOf(x);
        due("a seventh", x.tool(5, 5), NONE);
        due("an eighth", x.tool(0, 0), NONE);
        holds("nothing is changed", allOf(x).equals(before));
        int request = x.request(5, 1, 0);
        x.step();
        x.crash(x.about(request, 1));
        due("the sixth has its edition still", x.result(request), fresh(Long.MAX_VALUE, 1));
    }

    // Promise 3

    private static void editionAlsoTheSame() {
        says("A new EDITION (also the same): how many WORKERS ended");
        WorkerRows x = mixed();
        due("the same", x.edition(0, 11), 2);
        due("why the busy one ended", x.worker(6, 5), 1);
        due("why the free one ended", x.worker(7, 5), 1);
        dueRequest(x, 9, WAITING, NONE, 1, 0, 0);
        due("the other tool's stays", x.worker(5, 1), BUSY);
        due("the same again", x.edition(0, 11), 0);
        due("the other tool's", x.edition(1, 23), 1);
        dueRequest(x, 7, CANCELLED, NONE, 1, 0, 0);
        x.tool(1, 1);
        due("of a tool without a worker", x.edition(2, 1), 0);
    }

    private static void editionOfNoTool() {
        says("edition: NONE if there is no such TOOL");
        for (int tool : NO_TOOL) {
            refused("edition(" + tool + ", 9)", x -> x.edition(tool, 9), NONE);
        }
        due("of a new object", new WorkerRows(1, 1, 1).edition(0, 1), NONE);
    }

    // Promise 4

    private static void quirkOfNoTool() {
        says("The QUIRK of a TOOL from now on; false if there is none such");
        for (int tool : NO_TOOL) {
            refused("quirk(" + tool + ", 9)", x -> x.quirk(tool, 9) ? 1 : 0, 0);
        }
        due("of a new object", new WorkerRows(1, 1, 1).quirk(0, 1) ? 1 : 0, 0);
    }

    private static void quirkOfTheLastTool() {
        says("The QUIRK of a TOOL from now on");
        WorkerRows x = new WorkerRows(1, 10, 10);
        for (int tool = 0; tool < 6; tool++) {
            x.tool(tool, 1);
        }
        x.request(5, 1, 0);
        x.request(5, 2, 0);
        due("of the last tool", x.quirk(5, Integer.MIN_VALUE) ? 1 : 0, 1);
        due("of the first tool", x.quirk(0, 3) ? 1 : 0, 1);
        due("of one beyond the last", x.quirk(6, 4) ? 1 : 0, 0);
        serve(x, 2);
        due("with its quirk", x.result(1), fresh(5, 2) + Integer.MIN_VALUE);
    }

    // Promise 5

    private static void requestIfThereAreAHundred() {
        says("A new REQUEST: its number; NONE if there are 100");
        WorkerRows x = mixed();
        for (int i = 12; i < 100; i++) {
            due("request", x.request(1, i, 0), i);
        }
        due("one more", x.request(1, 1, 0), NONE);
        due("one more", x.request(0, 1, 1000), NONE);
        due("it isn't there", x.about(100, 0), NONE);
        dueRequest(x, 99, WAITING, NONE, 0, 0, 0);
        x.edition(1, 23);
        x.finish(6);
        due("done ones make no room", x.request(1, 1, 0), NONE);
    }

    private static void requestOfNoTool() {
        says("A new REQUEST: NONE if .. no such TOOL");
        for (int tool : NO_TOOL) {
            refused("request(" + tool + ", 1, 1)", x -> x.request(tool, 1, 1), NONE);
        }
        due("of a new object", new WorkerRows(1, 1, 1).request(0, 1, 1), NONE);
    }

    private static void requestOfAWrongSize() {
        says("A new REQUEST: NONE if .. SIZE isn't as told");
        for (int size : new int[] {-1, 1001, Integer.MIN_VALUE, Integer.MAX_VALUE}) {
            refused("request(0, 1, " + size + ")", x -> x.request(0, 1, size), NONE);
        }
        WorkerRows x = mixed();
        due("the least size", x.request(0, Long.MIN_VALUE, 0), 12);
        due("the greatest size", x.request(0, Long.MAX_VALUE, 1000), 13);
    }

    // Promise 6

    private static void cancelOfAWaitingOne() {
        says("A REQUEST that is WAITING is CANCELLED (1)");
        WorkerRows x = mixed();
        due("a waiting one", x.cancel(11), 1);
        dueRequest(x, 11, CANCELLED, NONE, 0, 0, 0);
        due("no step begins it", x.step(), 0);
        x.edition(0, 1);
        due("one that waits again", x.cancel(9), 1);
        dueRequest(x, 9, CANCELLED, NONE, 1, 0, 0);
    }

    private static void cancelOfARunningOne() {
        says("one that is RUNNING is UNWANTED (2; also if it was)");
        WorkerRows x = mixed();
        due("a running one", x.cancel(9), 2);
        dueRequest(x, 9, RUNNING, 6, 1, 1, 0);
        refused("cancel of an unwanted one", y -> y.cancel(7), 2);
    }

    private static void cancelOfADoneOrCancelledOne() {
        says("0 if it is DONE or CANCELLED");
        refused("cancel of one done by a worker", x -> x.cancel(10), 0);
        refused("cancel of one done by an ended worker", x -> x.cancel(1), 0);
        refused("cancel of one done by a crash", x -> x.cancel(4), 0);
        refused("cancel of a redone one", x -> x.cancel(0), 0);
        refused("cancel of a cancelled one", x -> x.cancel(6), 0);
    }

    private static void cancelOfNoRequest() {
        says("cancel: NONE if there is none such");
        for (int request : NO_REQUEST) {
            refused("cancel(" + request + ")", x -> x.cancel(request), NONE);
        }
        due("of a new object", new WorkerRows(1, 1, 1).cancel(0), NONE);
    }

    // Promise 7

    private static void stepOfNone() {
        says("A STEP: how many REQUESTS were begun or DONE (none)");
        WorkerRows x = new WorkerRows(1, 1, 1);
        due("of a new object", x.step(), 0);
        x.tool(1, 1);
        due("with no request", x.step(), 0);
        x.request(0, 1, 0);
        due("with one", x.step(), 1);
        due("with none that waits", x.step(), 0);
        x.request(0, 2, 0);
        due("with none that may begin", x.step(), 0);
    }

    private static void stepOfMany() {
        says("A STEP: how many REQUESTS were begun or DONE (all)");
        WorkerRows x = new WorkerRows(4, 100, 10);
        x.tool(1, 1);
        x.tool(2, 0);
        barOften(x, 0, 3);
        for (int i = 6; i < 100; i++) {
            x.request(i < 10 ? 1 : 0, i, 0);
        }
        due("four begun and ninety done", x.step(), 94);
        dueRequest(x, 9, RUNNING, 6, 1, 0, 0);
        dueRequest(x, 10, DONE, NONE, 0, 0, 0);
        dueRequest(x, 99, DONE, NONE, 0, 0, 0);
        due("result of the last", x.result(99), fresh(1, 99));
        due("again", x.step(), 0);
    }

    // Promise 8

    private static void finishOfNoWorker() {
        says("finish: NONE if there is none such");
        for (int worker : NO_WORKER) {
            refused("finish(" + worker + ")", x -> x.finish(worker), NONE);
        }
        due("of a new object", new WorkerRows(1, 1, 1).finish(0), NONE);
    }

    private static void finishOfOneThatIsNotBusy() {
        says("finish: NONE if .. it isn't BUSY");
        refused("finish of a free one", x -> x.finish(7), NONE);
        for (int i = 0; i < 5; i++) {
            int ended = i;
            refused("finish of an ended one, " + ended, x -> x.finish(ended), NONE);
        }
        WorkerRows x = mixed();
        due("finish of a busy one", x.finish(6), 9);
        due("finish of it again", x.finish(6), NONE);
        due("finish of one with an unwanted one", x.finish(5), 7);
        due("finish of it again", x.finish(5), NONE);
    }

    // Promise 9

    private static void crashOfNoWorker() {
        says("A CRASH: 1; NONE if there is no such WORKER");
        for (int worker : NO_WORKER) {
            refused("crash(" + worker + ")", x -> x.crash(worker), NONE);
        }
        due("of a new object", new WorkerRows(1, 1, 1).crash(0), NONE);
    }

    private static void crashOfAnEndedOne() {
        says("A CRASH: 1; NONE if .. it is ENDED");
        for (int i = 0; i < 5; i++) {
            int ended = i;
            refused("crash of an ended one, " + ended, x -> x.crash(ended), NONE);
        }
        WorkerRows x = mixed();
        for (int worker = 5; worker < 8; worker++) {
            due("crash of " + worker, x.crash(worker), 1);
            due("crash of it again", x.crash(worker), NONE);
        }
        dueRequest(x, 7, CANCELLED, NONE, 1, 0, 0);
        dueRequest(x, 9, DONE, NONE, 1, 0, 0);
        dueRequest(x, 10, DONE, 7, 1, 0, 0);
    }

    // Promise 10

    private static void tickOfNoneAndOfMost() {
        says("The CLOCK goes on by n ticks (0 .. 10000): how many WORKERS ended by this");
        refused("tick(0)", x -> x.tick(0), 0);
        due("tick(6)", mixed().tick(6), 0);
        due("tick(7)", mixed().tick(7), 1);
        due("tick(9999)", mixed().tick(9999), 1);
        due("tick(10000)", mixed().tick(10000), 1);
        due("tick(10000) of a new object", new WorkerRows(1, 1, 1).tick(10000), 0);
    }

    private static void tickOfTooFewOrTooMany() {
        says("tick: NONE if it isn't so");
        for (int n : new int[] {-1, 10001, Integer.MIN_VALUE, Integer.MAX_VALUE}) {
            refused("tick(" + n + ")", x -> x.tick(n), NONE);
        }
        due("tick(-1) of a new object", new WorkerRows(1, 1, 1).tick(-1), NONE);
    }

    private static void tickEndsAllAtOnce() {
        says("how many WORKERS ended by this");
        WorkerRows x = new WorkerRows(4, 10, 10);
        for (int tool = 0; tool < 6; tool++) {
            x.tool(tool, 0);
            for (int i = 0; i < 4; i++) {
                x.request(tool, i, 0);
            }
        }
        x.step();
        for (int worker = 0; worker < 24; worker++) {
            x.finish(worker);
        }
        due("a tick too few", x.tick(9), 0);
        due("all that can be", x.tick(1), 24);
        due("none is left", x.tick(10000), 0);
    }

    /** So late only behind the 512th call, where answers are free; the class keeps the limit all the same. */
    private static void tickUpToTheClocksLimit() {
        says("NONE if .. the CLOCK would be above 1000000000");
        WorkerRows x = new WorkerRows(1, 10, 10);
        for (int i = 0; i < 99999; i++) {
            x.tick(10000);
        }
        due("up to 999999999", x.tick(9999), 0);
        due("up to 1000009999", x.tick(10000), NONE);
        due("up to 1000000001", x.tick(2), NONE);
        due("up to 1000000000", x.tick(1), 0);
        due("no tick there", x.tick(0), 0);
        due("up to 1000000001", x.tick(1), NONE);
    }

    // Promise 11

    private static void sampleOfNoRequest() {
        says("sample: NONE if there is no such REQUEST");
        for (int request : NO_REQUEST) {
            refused("sample(" + request + ")", x -> x.sample(request), NONE);
        }
        due("of a new object", new WorkerRows(1, 1, 1).sample(0), NONE);
    }

    private static void sampleOfOneNotDoneByAWorker() {
        says("sample: NONE if .. it isn't DONE by a WORKER");
        refused("sample of a waiting one", x -> x.sample(11), NONE);
        refused("sample of a running one", x -> x.sample(9), NONE);
        refused("sample of an unwanted one", x -> x.sample(7), NONE);
        refused("sample of a cancelled one", x -> x.sample(6), NONE);
        refused("sample of one done by a crash", x -> x.sample(4), NONE);
        refused("sample of a redone one", x -> x.sample(0), NONE);
        refused("sample of the redone one that was sampled", x -> x.sample(2), NONE);
        WorkerRows x = mixed();
        due("sample of one done by an ended worker", x.sample(1), 0);
        due("sample of one that differs, by an ended worker", x.sample(3), 1);
        due("sample of one done by a free worker", x.sample(10), 0);
        due("sample of one done by a busy worker", x.sample(8), 0);
        barOften(x, 0, 1);
        int barred = x.request(0, 1, 0);
        x.step();
        due("bars", x.bars(0), 3);
        due("sample of one done for a barred tool", x.sample(barred), NONE);
    }

    // Promise 12

    private static void aboutOfNoRequest() {
        says("about: NONE if there is none such");
        for (int request : NO_REQUEST) {
            for (int i = 0; i <= 4; i++) {
                int what = i;
                refused("about(" + request + ", " + what + ")", x -> x.about(request, what), NONE);
            }
        }
        due("of a new object", new WorkerRows(1, 1, 1).about(0, 0), NONE);
    }

    private static void aboutAnotherWhat() {
        says("about: NONE .. for another what");
        for (int what : new int[] {-1, 5, 6, Integer.MIN_VALUE, Integer.MAX_VALUE}) {
            for (int i = 0; i < 12; i++) {
                due("about(" + i + ", " + what + ")", mixed().about(i, what), NONE);
            }
            refused("about(9, " + what + ")", x -> x.about(9, what), NONE);
        }
        WorkerRows x = mixed();
        due("the last what of a redone one", x.about(0, 4), 1);
        due("the last what of another", x.about(1, 4), 0);
    }

    private static void aboutWorkerOrNone() {
        says("1 the WORKER by which it is RUNNING or DONE (NONE)");
        WorkerRows x = mixed();
        due("of a waiting one", x.about(11, 1), NONE);
        due("of one that is running", x.about(9, 1), 6);
        due("of one done", x.about(10, 1), 7);
        due("of one done by a crash", x.about(4, 1), NONE);
        due("of a redone one", x.about(2, 1), NONE);
        due("of a cancelled one", x.about(6, 1), NONE);
        x.edition(0, 1);
        due("of one that waits again", x.about(9, 1), NONE);
        due("of one done by a worker that ended since", x.about(10, 1), 7);
        x.finish(5);
        due("of an unwanted one that was finished", x.about(7, 1), NONE);
    }

    private static void aboutHowOftenBegun() {
        says("2 how often it was begun by a WORKER");
        WorkerRows x = withRequests(1, 1, 0, 1);
        for (int i = 0; i < 60; i++) {
            due("begun before", x.about(0, 2), i);
            due("step", x.step(), 1);
            due("edition", x.edition(0, 1), 1);
        }
        due("no worker is left", x.step(), 0);
        dueRequest(x, 0, WAITING, NONE, 60, 0, 0);
        due("not begun by a worker", mixed().about(11, 2), 0);
    }

    private static void aboutUnwantedWhileRunningAlone() {
        says("3 whether it is UNWANTED (1, 0; RUNNING ones alone)");
        WorkerRows finished = mixed();
        finished.finish(5);
        dueRequest(finished, 7, CANCELLED, NONE, 1, 0, 0);
        WorkerRows crashed = mixed();
        crashed.crash(5);
        dueRequest(crashed, 7, CANCELLED, NONE, 1, 0, 0);
        WorkerRows renewed = mixed();
        renewed.edition(1, 1);
        dueRequest(renewed, 7, CANCELLED, NONE, 1, 0, 0);
        WorkerRows waiting = mixed();
        waiting.cancel(11);
        dueRequest(waiting, 11, CANCELLED, NONE, 0, 0, 0);
    }

    // Promise 13

    private static void resultOfOneThatIsNotDone() {
        says("The RESULT of a REQUEST; 0 if it isn't DONE");
        refused("result of a waiting one", x -> x.result(11), 0);
        refused("result of a running one", x -> x.result(9), 0);
        refused("result of an unwanted one", x -> x.result(7), 0);
        refused("result of a cancelled one", x -> x.result(6), 0);
        WorkerRows x = mixed();
        due("result of a redone one", x.result(2), fresh(11, 200));
        due("result by a crash", x.result(4), fresh(11, 200));
        x.finish(5);
        due("result of an unwanted one that was finished", x.result(7), 0);
        x.edition(0, 1);
        due("result of one that waits again", x.result(9), 0);
    }

    private static void resultOfNoRequest() {
        says("The RESULT of a REQUEST; 0 if .. there is none such");
        for (int request : NO_REQUEST) {
            refused("result(" + request + ")", x -> x.result(request), 0);
        }
        due("of a new object", new WorkerRows(1, 1, 1).result(0), 0);
    }

    private static void resultThatIsNoughtItself() {
        says("The RESULT of a REQUEST (each 64 bits)");
        for (long edge : new long[] {0, -1, Long.MIN_VALUE, Long.MAX_VALUE}) {
            WorkerRows x = new WorkerRows(1, 10, 10);
            x.tool(edge, 0);
            x.request(0, edge, 0);
            serve(x, 1);
            dueRequest(x, 0, DONE, 0, 1, 0, 0);
            due("the input alone", x.result(0), edge);
            due("the same", x.sample(0), 0);
        }
    }

    // Promise 14

    private static void workerOfNoWorker() {
        says("worker: NONE if there is none such");
        for (int worker : NO_WORKER) {
            for (int i = 0; i <= 6; i++) {
                int what = i;
                refused("worker(" + worker + ", " + what + ")", x -> x.worker(worker, what), NONE);
            }
        }
        due("of a new object", new WorkerRows(1, 1, 1).worker(0, 0), NONE);
    }

    private static void workerAnotherWhat() {
        says("worker: NONE .. for another what");
        for (int what : new int[] {-1, 7, 8, Integer.MIN_VALUE, Integer.MAX_VALUE}) {
            for (int i = 0; i < 8; i++) {
                due("worker(" + i + ", " + what + ")", mixed().worker(i, what), NONE);
            }
            refused("worker(6, " + what + ")", x -> x.worker(6, what), NONE);
        }
        WorkerRows x = mixed();
        x.sample(10);
        due("the last what", x.worker(7, 6), 1);
        due("the last what of another", x.worker(6, 6), 0);
    }

    private static void workerRequestOrNone() {
        says("4 the REQUEST with which it is BUSY (NONE)");
        int[] busyWith = {NONE, NONE, NONE, NONE, NONE, 7, 9, NONE};
        WorkerRows x = mixed();
        for (int worker = 0; worker < busyWith.length; worker++) {
            due("of worker " + worker, x.worker(worker, 4), busyWith[worker]);
        }
        x.crash(5);
        x.finish(6);
        due("of one that crashed", x.worker(5, 4), NONE);
        due("of one that finished", x.worker(6, 4), NONE);
    }

    private static void workerWhyEnded() {
        says("5 why it ENDED (1 to 5; 0)");
        for (int why = 1; why <= 5; why++) {
            dueWorker(endedFor(why), 0, 0, ENDED, 2, why == 2 ? 11 : 0, NONE, why, 0);
        }
        WorkerRows x = mixed();
        due("of a busy one", x.worker(6, 5), 0);
        due("of a free one", x.worker(7, 5), 0);
    }

    // Promise 15

    private static void barsOfNoTool() {
        says("How many BARS a TOOL has; NONE if there is none such");
        for (int tool : NO_TOOL) {
            refused("bars(" + tool + ")", x -> x.bars(tool), NONE);
        }
        WorkerRows x = mixed();
        due("one", x.bars(0), 1);
        due("none", x.bars(1), 0);
        due("of a new object", new WorkerRows(1, 1, 1).bars(0), NONE);
    }

    // Promise 16

    private static void oneShotChangesNothing() {
        says("ONE-SHOT of an EDITION and an INPUT");
        long[] edges = {0, 1, -1, Long.MIN_VALUE, Long.MAX_VALUE};
        for (long edition : edges) {
            for (long input : edges) {
                refused("oneShot(" + edition + ", " + input + ")", x -> x.oneShot(edition, input),
                        fresh(edition, input));
            }
        }
    }
}
