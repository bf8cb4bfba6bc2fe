/** One or more methods for each promise of the document: ordinary inputs, its edges, and wrong inputs. */
public final class PromisesTest {
    private static final int NONE = WorkerRows.NONE;
    private static final int[] FAR = {-1, Integer.MIN_VALUE, Integer.MAX_VALUE, 1000};

    private static final int WAITING = 0;
    private static final int RUNNING = 1;
    private static final int DONE = 2;
    private static final int CANCELLED = 3;

    private static final int FREE = 0;
    private static final int BUSY = 1;
    private static final int ENDED = 2;

    public static void main(String[] args) {
        newObjectIsEmpty();
        newObjectTakesTheNearestMost();
        newObjectTakesTheNearestBound();
        newObjectTakesTheNearestIdle();
        toolsAreNumberedUpToSix();
        editionEndsTheWorkersOfItsToolAlone();
        editionSendsRequestsBack();
        editionIsForLaterWorkers();
        quirkIsTheOneOfNow();
        quirkIsNotCutToAnInt();
        requestsAreNumberedUpToAHundred();
        requestRefusesWrongInputs();
        cancelOfEachState();
        stepTakesTheLeastFreeWorker();
        stepStartsAtMostMostForEachTool();
        stepStartsAtMostSixty();
        stepAnswersBarredOnesAtOnce();
        finishGivesAndFrees();
        finishEndsAboveTheBound();
        finishOfAnUnwantedOne();
        crashOfBusyFreeAndEnded();
        tickEndsIdleOnes();
        tickCountsFromTheLastFinish();
        tickRefusesWrongInputs();
        tickRefusesAClockTooLate();
        sampleThatIsTheSame();
        sampleThatDiffers();
        sampleOfATrustedOneThatDiffers();
        sampleOfWhatIsNotByAWorker();
        sampleEndsABusyWorker();
        sampleWhenAnUnwantedOneIsRunning();
        sampleCountsUnwantedPlaces();
        aboutEachWhat();
        resultOfEachState();
        workerEachWhat();
        barsOfATool();
        oneShotOfEdges();
        Check.end();
    }

    private static void due(String what, long got, long want) {
        Check.due("PromisesTest: " + what, got, want);
    }

    /** ONE-SHOT, written once more from the document's words. */
    private static long fresh(long edition, long input) {
        long first = edition ^ input;
        long second = (first ^ (first >>> 31)) * -7046029254386353131L;
        long third = (second ^ (second >>> 31)) * -7046029254386353131L;
        return third + input;
    }

    private static void dueRequest(WorkerRows x, int request, int... want) {
        for (int what = 0; what < want.length; what++) {
            due("about(" + request + ", " + what + ")", x.about(request, what), want[what]);
        }
    }

    private static void dueWorker(WorkerRows x, int worker, int... want) {
        for (int what = 0; what < want.length; what++) {
            due("worker(" + worker + ", " + what + ")", x.worker(worker, what), want[what]);
        }
    }

    /** One tool and so many requests of size 0, with the inputs 100, 101, .. . */
    private static WorkerRows withRequests(int most, long edition, int quirk, int requests) {
        WorkerRows x = new WorkerRows(most, 100000, 10);
        x.tool(edition, quirk);
        for (int i = 0; i < requests; i++) {
            x.request(0, 100 + i, 0);
        }
        return x;
    }

    /** The one worker 0 begins and finishes the next so many requests. */
    private static void serve(WorkerRows x, int count) {
        for (int i = 0; i < count; i++) {
            x.step();
            x.finish(0);
        }
    }

    // Promise 1

    private static void newObjectIsEmpty() {
        WorkerRows x = new WorkerRows(2, 10, 10);
        due("NONE", WorkerRows.NONE, -1);
        due("step of a new object", x.step(), 0);
        due("tick of a new object", x.tick(10000), 0);
        due("bars of a new object", x.bars(0), NONE);
        due("about of a new object", x.about(0, 0), NONE);
        due("worker of a new object", x.worker(0, 0), NONE);
        due("first tool", x.tool(1, 1), 0);
        due("first request", x.request(0, 1, 1), 0);
        due("two objects share nothing", new WorkerRows(2, 10, 10).bars(0), NONE);
    }

    private static void newObjectTakesTheNearestMost() {
        int[] given = {Integer.MIN_VALUE, 0, 1, 2, 3, 4, 5, Integer.MAX_VALUE};
        int[] taken = {1, 1, 1, 2, 3, 4, 4, 4};
        for (int i = 0; i < given.length; i++) {
            due("begun with most " + given[i], withRequests(given[i], 1, 0, 9).step(), taken[i]);
        }
    }

    private static void newObjectTakesTheNearestBound() {
        for (int bound : new int[] {Integer.MIN_VALUE, -1, 0}) {
            due("size 0 at bound " + bound, endedAfter(bound, 0), 0);
            due("size 1 at bound " + bound, endedAfter(bound, 1), 2);
        }
        due("size 5 at bound 5", endedAfter(5, 5), 0);
        due("size 6 at bound 5", endedAfter(5, 6), 2);
        for (int bound : new int[] {99999, 100000, 100001, Integer.MAX_VALUE}) {
            WorkerRows x = new WorkerRows(1, bound, 10);
            x.tool(1, 0);
            for (int i = 0; i < 100; i++) {
                x.request(0, i, 1000);
            }
            serve(x, 100);
            due("memory 100000", x.worker(0, 3), 100000);
            due("memory 100000 at bound " + bound, x.worker(0, 5), bound < 100000 ? 2 : 0);
        }
    }

    private static int endedAfter(int bound, int size) {
        WorkerRows x = new WorkerRows(1, bound, 10);
        x.tool(1, 0);
        x.request(0, 1, size);
        serve(x, 1);
        return x.worker(0, 5);
    }

    private static void newObjectTakesTheNearestIdle() {
        int[] given = {Integer.MIN_VALUE, 0, 1, 2, 999, 1000, 1001, Integer.MAX_VALUE};
        int[] taken = {1, 1, 1, 2, 999, 1000, 1000, 1000};
        for (int i = 0; i < given.length; i++) {
            WorkerRows x = new WorkerRows(1, 10, given[i]);
            x.tool(1, 0);
            x.request(0, 1, 0);
            serve(x, 1);
            due("a tick before idle " + given[i], x.tick(taken[i] - 1), 0);
            due("idle " + given[i], x.tick(1), 1);
        }
    }

    // Promise 2

    private static void toolsAreNumberedUpToSix() {
        WorkerRows x = new WorkerRows(1, 10, 10);
        for (int i = 0; i < 6; i++) {
            due("tool " + i, x.tool(Long.MIN_VALUE + i, Integer.MIN_VALUE + i), i);
        }
        due("a seventh tool", x.tool(1, 1), NONE);
        due("request of the last tool", x.request(5, 1, 1), 0);
        due("request of a seventh tool", x.request(6, 1, 1), NONE);
        x.step();
        x.finish(0);
        due("result by the last tool", x.result(0), fresh(Long.MIN_VALUE + 5, 1));
    }

    // Promise 3

    private static void editionEndsTheWorkersOfItsToolAlone() {
        WorkerRows x = new WorkerRows(4, 10, 10);
        x.tool(1, 0);
        x.tool(2, 0);
        x.request(0, 1, 0);
        x.request(1, 2, 0);
        x.request(0, 3, 0);
        x.request(0, 4, 0);
        due("step", x.step(), 4);
        x.finish(0);
        x.crash(2);
        for (int far : FAR) {
            due("edition of tool " + far, x.edition(far, 9), NONE);
        }
        due("edition of tool 2 of 2", x.edition(2, 9), NONE);
        dueWorker(x, 0, 0, FREE, 1, 0, NONE, 0, 0);
        due("edition ends the free and the busy one", x.edition(0, 9), 2);
        dueWorker(x, 0, 0, ENDED, 1, 0, NONE, 1, 0);
        dueWorker(x, 1, 1, BUSY, 0, 0, 1, 0, 0);
        dueWorker(x, 2, 0, ENDED, 0, 0, NONE, 3, 0);
        dueWorker(x, 3, 0, ENDED, 0, 0, NONE, 1, 0);
        due("edition once more", x.edition(0, 9), 0);
        due("the same edition", x.edition(1, 2), 1);
        dueWorker(x, 1, 1, ENDED, 0, 0, NONE, 1, 0);
    }

    private static void editionSendsRequestsBack() {
        WorkerRows x = withRequests(2, 1, 0, 2);
        x.step();
        x.cancel(1);
        due("edition", x.edition(0, 5), 2);
        dueRequest(x, 0, WAITING, NONE, 1, 0, 0);
        dueRequest(x, 1, CANCELLED, NONE, 1, 0, 0);
        due("step behind it", x.step(), 1);
        dueRequest(x, 0, RUNNING, 2, 2, 0, 0);
        x.finish(2);
        due("by the new edition", x.result(0), fresh(5, 100));
    }

    private static void editionIsForLaterWorkers() {
        WorkerRows x = withRequests(1, 1, 3, 1);
        serve(x, 1);
        x.edition(0, 7);
        due("what was done stays", x.result(0), fresh(1, 100));
        due("sampled by the worker's edition", x.sample(0), 0);
        x.request(0, 8, 0);
        x.step();
        due("crash", x.crash(1), 1);
        due("by the new worker's edition", x.result(1), fresh(7, 8));
    }

    // Promise 4

    private static void quirkIsTheOneOfNow() {
        WorkerRows x = withRequests(1, 1, 5, 3);
        for (int far : FAR) {
            due("quirk of tool " + far, x.quirk(far, 9) ? 1 : 0, 0);
        }
        due("quirk of tool 1 of 1", x.quirk(1, 9) ? 1 : 0, 0);
        serve(x, 2);
        due("first result", x.result(0), fresh(1, 100));
        due("second result", x.result(1), fresh(1, 101) + 5);
        x.step();
        due("quirk", x.quirk(0, -7) ? 1 : 0, 1);
        x.finish(0);
        due("with the quirk at its finish", x.result(2), fresh(1, 102) - 14);
        due("earlier ones stay", x.result(1), fresh(1, 101) + 5);
    }

    private static void quirkIsNotCutToAnInt() {
        for (int quirk : new int[] {Integer.MAX_VALUE, Integer.MIN_VALUE}) {
            WorkerRows x = withRequests(1, -1, quirk, 4);
            serve(x, 4);
            due("three times " + quirk, x.result(3), fresh(-1, 103) + 3L * quirk);
        }
    }

    // Promise 5

    private static void requestsAreNumberedUpToAHundred() {
        WorkerRows x = new WorkerRows(1, 10, 10);
        x.tool(1, 0);
        for (int i = 0; i < 100; i++) {
            due("request " + i, x.request(0, i, i), i);
        }
        due("request 100", x.request(0, 1, 1), NONE);
        due("about the last", x.about(99, 0), WAITING);
        due("about one behind it", x.about(100, 0), NONE);
    }

    private static void requestRefusesWrongInputs() {
        WorkerRows x = new WorkerRows(1, 10, 10);
        due("request without a tool", x.request(0, 1, 1), NONE);
        x.tool(1, 0);
        for (int far : FAR) {
            due("request of tool " + far, x.request(far, 1, 1), NONE);
        }
        due("request of tool 1 of 1", x.request(1, 1, 1), NONE);
        for (int size : new int[] {-1, 1001, Integer.MIN_VALUE, Integer.MAX_VALUE}) {
            due("size " + size, x.request(0, 1, size), NONE);
        }
        due("size 0", x.request(0, Long.MIN_VALUE, 0), 0);
        due("size 1000", x.request(0, Long.MAX_VALUE, 1000), 1);
        dueRequest(x, 1, WAITING, NONE, 0, 0, 0);
    }

    // Promise 6

    private static void cancelOfEachState() {
        WorkerRows x = withRequests(2, 1, 0, 4);
        for (int far : FAR) {
            due("cancel of " + far, x.cancel(far), NONE);
        }
        due("cancel of 4 of 4", x.cancel(4), NONE);
        due("a waiting one", x.cancel(1), 1);
        due("a cancelled one", x.cancel(1), 0);
        dueRequest(x, 1, CANCELLED, NONE, 0, 0, 0);
        due("step passes over it", x.step(), 2);
        due("a running one", x.cancel(0), 2);
        due("an unwanted one", x.cancel(0), 2);
        dueRequest(x, 0, RUNNING, 0, 1, 1, 0);
        x.finish(1);
        due("a done one", x.cancel(2), 0);
        dueRequest(x, 2, DONE, 1, 1, 0, 0);
    }

    // Promise 7

    private static void stepTakesTheLeastFreeWorker() {
        WorkerRows x = new WorkerRows(3, 100, 10);
        x.tool(1, 0);
        x.tool(2, 0);
        x.request(1, 1, 0);
        x.request(0, 2, 0);
        x.request(0, 3, 0);
        due("step", x.step(), 3);
        x.finish(2);
        x.finish(1);
        x.finish(0);
        x.request(0, 4, 0);
        due("step", x.step(), 1);
        dueRequest(x, 3, RUNNING, 1, 1, 0, 0);
        dueWorker(x, 0, 1, FREE, 1, 0, NONE, 0, 0);
        due("no other was started", x.worker(3, 0), NONE);
    }

    private static void stepStartsAtMostMostForEachTool() {
        WorkerRows x = new WorkerRows(2, 100, 10);
        x.tool(1, 0);
        x.tool(2, 0);
        for (int i = 0; i < 6; i++) {
            x.request(i / 3, i, 0);
        }
        due("two of each tool", x.step(), 4);
        dueRequest(x, 2, WAITING, NONE, 0, 0, 0);
        dueRequest(x, 3, RUNNING, 2, 1, 0, 0);
        due("again", x.step(), 0);
        x.crash(0);
        due("in place of the ended one", x.step(), 1);
        dueRequest(x, 2, RUNNING, 4, 1, 0, 0);
        dueRequest(x, 5, WAITING, NONE, 0, 0, 0);
    }

    private static void stepStartsAtMostSixty() {
        WorkerRows x = withRequests(4, 1, 0, 63);
        for (int i = 0; i < 59; i++) {
            x.step();
            x.crash(i);
        }
        due("the workers up to 59", x.worker(59, 1), BUSY);
        due("no worker 60", x.worker(60, 0), NONE);
        due("no more are started", x.step(), 0);
        x.finish(59);
        due("the last one takes another", x.step(), 1);
        dueWorker(x, 59, 0, BUSY, 1, 0, 60, 0, 0);
        x.tool(2, 0);
        due("request of another tool", x.request(1, 1, 0), 63);
        due("it gets none", x.step(), 0);
    }

    private static void stepAnswersBarredOnesAtOnce() {
        WorkerRows x = new WorkerRows(1, 100, 10);
        x.tool(1, 1);
        x.tool(9, 1);
        barOften(x, 2);
        int last = x.request(0, 77, 0);
        due("two bars begin with a worker", x.step(), 1);
        due("two bars begin with a worker", x.about(last, 0), RUNNING);
        x.finish(2);
        barOften(x, 1);
        due("bars", x.bars(0), 3);
        int first = x.request(0, 5, 0);
        int second = x.request(0, 6, 0);
        int other = x.request(1, 7, 0);
        due("a new edition does not lift it", x.edition(0, 40), 0);
        due("all three", x.step(), 3);
        dueRequest(x, first, DONE, NONE, 0, 0, 0);
        dueRequest(x, second, DONE, NONE, 0, 0, 0);
        due("by the tool's edition", x.result(first), fresh(40, 5));
        due("by the tool's edition", x.result(second), fresh(40, 6));
        due("another tool isn't barred", x.about(other, 0), RUNNING);
        due("not done by a worker", x.sample(first), NONE);
    }

    /** Each time a worker finishes two for tool 0, and the second is sampled and differs. */
    private static void barOften(WorkerRows x, int times) {
        for (int i = 0; i < times; i++) {
            for (int j = 0; j < 2; j++) {
                int request = x.request(0, 1000 + i, 0);
                x.step();
                x.finish(x.about(request, 1));
                if (j == 1) {
                    Check.holds("PromisesTest: a sample differs", x.sample(request) > 0);
                }
            }
        }
    }

    // Promise 8

    private static void finishGivesAndFrees() {
        WorkerRows x = new WorkerRows(2, 1000, 10);
        x.tool(-3, 1000);
        x.request(0, -8, 400);
        x.request(0, -9, 600);
        for (int far : FAR) {
            due("finish of " + far, x.finish(far), NONE);
        }
        due("finish of a worker that isn't there yet", x.finish(0), NONE);
        due("step", x.step(), 2);
        due("finish", x.finish(1), 1);
        dueRequest(x, 1, DONE, 1, 1, 0, 0);
        dueWorker(x, 1, 0, FREE, 1, 600, NONE, 0, 0);
        due("result", x.result(1), fresh(-3, -9));
        due("finish of a free one", x.finish(1), NONE);
        due("finish", x.finish(0), 0);
        x.request(0, 1, 600);
        x.step();
        due("finish", x.finish(0), 2);
        due("result of the second", x.result(2), fresh(-3, 1) + 1000);
        dueWorker(x, 0, 0, FREE, 2, 1000, NONE, 0, 0);
    }

    private static void finishEndsAboveTheBound() {
        WorkerRows x = new WorkerRows(1, 10, 10);
        x.tool(1, 0);
        x.request(0, 1, 10);
        x.request(0, 2, 1);
        x.request(0, 3, 0);
        serve(x, 1);
        dueWorker(x, 0, 0, FREE, 1, 10, NONE, 0, 0);
        serve(x, 1);
        dueWorker(x, 0, 0, ENDED, 2, 11, NONE, 2, 0);
        dueRequest(x, 1, DONE, 0, 1, 0, 0);
        due("finish of an ended one", x.finish(0), NONE);
        x.step();
        dueRequest(x, 2, RUNNING, 1, 1, 0, 0);
    }

    private static void finishOfAnUnwantedOne() {
        WorkerRows x = new WorkerRows(1, 10, 10);
        x.tool(1, 6);
        x.request(0, 1, 4);
        x.request(0, 2, 6);
        x.request(0, 3, 1);
        x.step();
        x.cancel(0);
        due("finish", x.finish(0), 0);
        dueRequest(x, 0, CANCELLED, NONE, 1, 0, 0);
        due("no result", x.result(0), 0);
        dueWorker(x, 0, 0, FREE, 1, 4, NONE, 0, 0);
        serve(x, 1);
        due("it counts as finished", x.result(1), fresh(1, 2) + 6);
        x.step();
        x.cancel(2);
        due("finish", x.finish(0), 2);
        dueWorker(x, 0, 0, ENDED, 3, 11, NONE, 2, 0);
        dueRequest(x, 2, CANCELLED, NONE, 1, 0, 0);
    }

    // Promise 9

    private static void crashOfBusyFreeAndEnded() {
        WorkerRows x = new WorkerRows(3, 100, 10);
        x.tool(1, 50);
        x.request(0, 1, 9);
        x.request(0, 2, 9);
        x.request(0, 3, 9);
        for (int far : FAR) {
            due("crash of " + far, x.crash(far), NONE);
        }
        due("crash of a worker that isn't there yet", x.crash(0), NONE);
        x.step();
        x.finish(0);
        x.request(0, 4, 9);
        x.step();
        due("crash of a busy one", x.crash(0), 1);
        dueRequest(x, 3, DONE, NONE, 1, 0, 0);
        due("without the quirk", x.result(3), fresh(1, 4));
        dueWorker(x, 0, 0, ENDED, 1, 9, NONE, 3, 0);
        due("crash of an ended one", x.crash(0), NONE);
        dueRequest(x, 0, DONE, 0, 1, 0, 0);
        x.cancel(1);
        due("crash with an unwanted one", x.crash(1), 1);
        dueRequest(x, 1, CANCELLED, NONE, 1, 0, 0);
        due("no result", x.result(1), 0);
        x.finish(2);
        due("crash of a free one", x.crash(2), 1);
        dueWorker(x, 2, 0, ENDED, 1, 9, NONE, 3, 0);
        dueRequest(x, 2, DONE, 2, 1, 0, 0);
    }

    // Promise 10

    private static void tickEndsIdleOnes() {
        WorkerRows x = withRequests(4, 1, 0, 4);
        x.step();
        x.finish(0);
        x.crash(3);
        x.tick(3);
        x.finish(1);
        due("nine ticks free", x.tick(6), 0);
        due("no tick", x.tick(0), 0);
        due("ten ticks free", x.tick(1), 1);
        dueWorker(x, 0, 0, ENDED, 1, 0, NONE, 4, 0);
        dueWorker(x, 1, 0, FREE, 1, 0, NONE, 0, 0);
        due("the other", x.tick(10000), 1);
        dueWorker(x, 1, 0, ENDED, 1, 0, NONE, 4, 0);
        dueWorker(x, 2, 0, BUSY, 0, 0, 2, 0, 0);
        dueWorker(x, 3, 0, ENDED, 0, 0, NONE, 3, 0);
        due("none are left", x.tick(10000), 0);
    }

    private static void tickCountsFromTheLastFinish() {
        WorkerRows x = withRequests(1, 1, 0, 2);
        serve(x, 1);
        x.tick(9);
        x.step();
        due("a busy one", x.tick(50), 0);
        x.finish(0);
        due("nine ticks behind its last", x.tick(9), 0);
        due("ten ticks behind its last", x.tick(1), 1);
        WorkerRows both = new WorkerRows(4, 10, 5);
        both.tool(1, 0);
        both.tool(2, 0);
        both.request(0, 1, 0);
        both.request(1, 1, 0);
        both.step();
        both.finish(0);
        both.finish(1);
        due("of both tools", both.tick(5), 2);
    }

    private static void tickRefusesWrongInputs() {
        WorkerRows x = withRequests(1, 1, 0, 1);
        serve(x, 1);
        for (int n : new int[] {-1, 10001, Integer.MIN_VALUE, Integer.MAX_VALUE}) {
            due("tick(" + n + ")", x.tick(n), NONE);
        }
        due("they moved no clock", x.tick(9), 0);
        due("they moved no clock", x.tick(1), 1);
        due("tick(10000)", x.tick(10000), 0);
    }

    /** So late only behind the 512th call, where answers are free; the class keeps the edge all the same. */
    private static void tickRefusesAClockTooLate() {
        WorkerRows x = new WorkerRows(1, 10, 10);
        for (int i = 0; i < 99999; i++) {
            x.tick(10000);
        }
        due("up to 999999999", x.tick(9999), 0);
        due("up to 1000000001", x.tick(2), NONE);
        due("up to 1000000000", x.tick(1), 0);
        due("no tick there", x.tick(0), 0);
        due("up to 1000000001", x.tick(1), NONE);
    }

    // Promise 11

    private static void sampleThatIsTheSame() {
        WorkerRows x = withRequests(1, 1, 0, 5);
        serve(x, 4);
        due("the third", x.sample(2), 0);
        due("trusted up to it", x.worker(0, 6), 3);
        due("an earlier one", x.sample(0), 0);
        due("no trust is lost", x.worker(0, 6), 3);
        due("the fourth", x.sample(3), 0);
        due("trusted up to it", x.worker(0, 6), 4);
        dueWorker(x, 0, 0, FREE, 4, 0, NONE, 0, 4);
        dueRequest(x, 3, DONE, 0, 1, 0, 0);
        due("bars", x.bars(0), 0);
    }

    private static void sampleThatDiffers() {
        WorkerRows x = withRequests(1, 1, 0, 6);
        serve(x, 2);
        x.sample(1);
        x.quirk(0, 4);
        serve(x, 3);
        due("the last", x.result(4), fresh(1, 104) + 16);
        due("all behind the trusted", x.sample(4), 3);
        for (int i = 0; i < 5; i++) {
            due("result " + i, x.result(i), fresh(1, 100 + i));
            boolean trusted = i < 2;
            dueRequest(x, i, DONE, trusted ? 0 : NONE, 1, 0, trusted ? 0 : 1);
        }
        dueWorker(x, 0, 0, ENDED, 5, 0, NONE, 5, 2);
        due("bars", x.bars(0), 1);
        due("a redone one", x.sample(3), NONE);
        due("a trusted one still", x.sample(0), 0);
        due("a new worker", x.step(), 1);
        dueRequest(x, 5, RUNNING, 1, 1, 0, 0);
    }

    private static void sampleOfATrustedOneThatDiffers() {
        WorkerRows x = withRequests(1, 1, 1, 5);
        serve(x, 3);
        x.quirk(0, 0);
        serve(x, 1);
        due("the fourth is the same", x.sample(3), 0);
        due("trusted up to it", x.worker(0, 6), 4);
        x.quirk(0, 2);
        serve(x, 1);
        due("the second, and the one behind the trusted", x.sample(1), 2);
        dueRequest(x, 0, DONE, 0, 1, 0, 0);
        dueRequest(x, 1, DONE, NONE, 1, 0, 1);
        dueRequest(x, 2, DONE, 0, 1, 0, 0);
        dueRequest(x, 3, DONE, 0, 1, 0, 0);
        dueRequest(x, 4, DONE, NONE, 1, 0, 1);
        due("what is trusted stays", x.result(2), fresh(1, 102) + 2);
        due("the redone", x.result(4), fresh(1, 104));
        due("the third, alone", x.sample(2), 1);
        due("trusted", x.worker(0, 6), 4);
        due("bars", x.bars(0), 2);
        due("ended once", x.worker(0, 5), 5);
    }

    private static void sampleOfWhatIsNotByAWorker() {
        WorkerRows x = withRequests(2, 1, 1, 4);
        for (int far : FAR) {
            due("sample of " + far, x.sample(far), NONE);
        }
        due("sample of 4 of 4", x.sample(4), NONE);
        due("a waiting one", x.sample(0), NONE);
        x.step();
        due("a running one", x.sample(0), NONE);
        x.crash(0);
        due("one by a crash", x.sample(0), NONE);
        x.cancel(3);
        due("a cancelled one", x.sample(3), NONE);
        due("bars", x.bars(0), 0);
    }

    private static void sampleEndsABusyWorker() {
        WorkerRows x = withRequests(2, 1, 1, 6);
        x.step();
        x.finish(1);
        x.step();
        x.finish(1);
        x.finish(0);
        x.step();
        dueRequest(x, 3, RUNNING, 0, 1, 0, 0);
        dueRequest(x, 4, RUNNING, 1, 1, 0, 0);
        due("both of worker 1 alone", x.sample(2), 2);
        dueWorker(x, 1, 0, ENDED, 2, 0, NONE, 5, 0);
        dueWorker(x, 0, 0, BUSY, 1, 0, 3, 0, 0);
        dueRequest(x, 0, DONE, 0, 1, 0, 0);
        dueRequest(x, 4, WAITING, NONE, 1, 0, 0);
        due("it begins again", x.step(), 1);
        dueRequest(x, 4, RUNNING, 2, 2, 0, 0);
        x.finish(0);
        x.crash(0);
        due("one of a crashed worker", x.sample(3), 2);
        dueWorker(x, 0, 0, ENDED, 2, 0, NONE, 3, 0);
        due("bars", x.bars(0), 2);
    }

    private static void sampleWhenAnUnwantedOneIsRunning() {
        WorkerRows x = withRequests(1, 1, 1, 3);
        serve(x, 2);
        x.step();
        x.cancel(2);
        due("both", x.sample(1), 2);
        dueRequest(x, 2, CANCELLED, NONE, 1, 0, 0);
        due("nothing waits", x.step(), 0);
    }

    private static void sampleCountsUnwantedPlaces() {
        WorkerRows x = withRequests(1, 1, 0, 4);
        x.step();
        x.cancel(0);
        x.finish(0);
        serve(x, 1);
        due("the second", x.sample(1), 0);
        due("trusted up to two", x.worker(0, 6), 2);
        x.quirk(0, 3);
        x.step();
        x.cancel(2);
        x.finish(0);
        serve(x, 1);
        due("cancelled ones are not redone", x.sample(3), 1);
        dueRequest(x, 2, CANCELLED, NONE, 1, 0, 0);
    }

    // Promise 12

    private static void aboutEachWhat() {
        WorkerRows x = withRequests(1, 1, 0, 2);
        for (int far : FAR) {
            due("about(" + far + ", 0)", x.about(far, 0), NONE);
            due("about(0, " + far + ")", x.about(0, far), NONE);
        }
        due("about(2, 0) of two", x.about(2, 0), NONE);
        due("about(0, 5)", x.about(0, 5), NONE);
        dueRequest(x, 0, WAITING, NONE, 0, 0, 0);
        x.step();
        dueRequest(x, 0, RUNNING, 0, 1, 0, 0);
        x.edition(0, 2);
        x.step();
        x.cancel(0);
        dueRequest(x, 0, RUNNING, 1, 2, 1, 0);
        x.finish(1);
        dueRequest(x, 0, CANCELLED, NONE, 2, 0, 0);
        x.step();
        x.finish(1);
        dueRequest(x, 1, DONE, 1, 1, 0, 0);
    }

    // Promise 13

    private static void resultOfEachState() {
        WorkerRows x = withRequests(1, 1, 0, 2);
        for (int far : FAR) {
            due("result of " + far, x.result(far), 0);
        }
        due("result of 2 of 2", x.result(2), 0);
        due("a waiting one", x.result(0), 0);
        x.step();
        due("a running one", x.result(0), 0);
        x.finish(0);
        due("a done one", x.result(0), fresh(1, 100));
        x.cancel(1);
        due("a cancelled one", x.result(1), 0);
    }

    // Promise 14

    private static void workerEachWhat() {
        WorkerRows x = new WorkerRows(1, 10, 10);
        x.tool(1, 0);
        x.tool(2, 0);
        x.request(1, 1, 7);
        due("worker(0, 0) before it is there", x.worker(0, 0), NONE);
        x.step();
        for (int far : FAR) {
            due("worker(" + far + ", 0)", x.worker(far, 0), NONE);
            due("worker(0, " + far + ")", x.worker(0, far), NONE);
        }
        due("worker(1, 0) of one", x.worker(1, 0), NONE);
        due("worker(0, 7)", x.worker(0, 7), NONE);
        dueWorker(x, 0, 1, BUSY, 0, 0, 0, 0, 0);
        x.finish(0);
        dueWorker(x, 0, 1, FREE, 1, 7, NONE, 0, 0);
        x.sample(0);
        dueWorker(x, 0, 1, FREE, 1, 7, NONE, 0, 1);
        x.edition(1, 2);
        dueWorker(x, 0, 1, ENDED, 1, 7, NONE, 1, 1);
    }

    // Promise 15

    private static void barsOfATool() {
        WorkerRows x = new WorkerRows(1, 100, 10);
        x.tool(1, 0);
        x.tool(2, 1);
        for (int far : FAR) {
            due("bars of " + far, x.bars(far), NONE);
        }
        due("bars of tool 2 of 2", x.bars(2), NONE);
        for (int i = 0; i < 5; i++) {
            x.request(1, i, 0);
        }
        serve(x, 4);
        x.quirk(1, 0);
        serve(x, 1);
        due("all are trusted", x.sample(4), 0);
        for (int i = 1; i < 4; i++) {
            due("sample " + i, x.sample(i), 1);
            due("bars", x.bars(1), i);
        }
        due("bars of the other tool", x.bars(0), 0);
    }

    // Promise 16

    private static void oneShotOfEdges() {
        WorkerRows x = new WorkerRows(1, 1, 1);
        due("oneShot(7, 5)", x.oneShot(7, 5), -2477363030560486656L);
        due("oneShot(-1, 123456789012345)", x.oneShot(-1, 123456789012345L), -155826393916119892L);
        long[] edges = {0, 1, -1, 1L << 31, 1L << 32, Long.MIN_VALUE, Long.MAX_VALUE, 0x9E3779B97F4A7C15L};
        for (long edition : edges) {
            due("oneShot of " + edition + " twice", x.oneShot(edition, edition), edition);
            for (long input : edges) {
                due("oneShot(" + edition + ", " + input + ")", x.oneShot(edition, input), fresh(edition, input));
            }
        }
    }
}
