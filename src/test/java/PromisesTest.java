/** One or more methods for each promise of the document; its boundaries stand in the two other tests. */
public final class PromisesTest extends Scenes {
    public static void main(String[] args) {
        says("Promise 1");
        newObjectIsEmpty();
        says("Promise 2");
        toolsHaveTheirOwnEditionsAndQuirks();
        says("Promise 3");
        editionEndsTheWorkersOfItsToolAlone();
        editionSendsRequestsBack();
        editionIsForLaterWorkers();
        says("Promise 4");
        quirkIsTheOneOfNow();
        says("Promise 5");
        requestsHaveTheirOwnInputsAndSizes();
        says("Promise 6");
        cancelOfEachState();
        says("Promise 7");
        stepTakesTheLeastFreeWorker();
        stepStartsAtMostMostForEachTool();
        stepAnswersBarredOnesAtOnce();
        says("Promise 8");
        finishGivesAndFrees();
        finishEndsAboveTheBound();
        finishOfAnUnwantedOne();
        says("Promise 9");
        crashOfBusyFreeAndEnded();
        says("Promise 10");
        tickEndsIdleOnes();
        tickCountsFromTheLastFinish();
        says("Promise 11");
        sampleThatIsTheSame();
        sampleThatDiffers();
        sampleOfATrustedOneThatDiffers();
        sampleOfWhatIsNotByAWorker();
        sampleEndsABusyWorker();
        sampleWhenAnUnwantedOneIsRunning();
        sampleCountsUnwantedPlaces();
        says("Promise 12");
        aboutEachWhat();
        says("Promise 13");
        resultOfEachState();
        says("Promise 14");
        workerEachWhat();
        says("Promise 15");
        barsOfATool();
        says("Promise 16");
        oneShotOfKnownOnes();
        Check.end();
    }

    // Promise 1

    private static void newObjectIsEmpty() {
        WorkerRows x = new WorkerRows(2, 10, 10);
        due("NONE", WorkerRows.NONE, -1);
        due("step of a new object", x.step(), 0);
        due("tick of a new object", x.tick(10000), 0);
        due("bars of a new object", x.bars(0), NONE);
        due("about of a new object", x.about(0, 0), NONE);
        due("worker of a new object", x.worker(0, 0), NONE);
        due("first tool", x.tool(1, 1), 0);
        due("first request", x.request(0, 1, 1), 0);
        due("two objects share nothing", new WorkerRows(2, 10, 10).bars(0), NONE);
    }

    // Promise 2

    private static void toolsHaveTheirOwnEditionsAndQuirks() {
        WorkerRows x = new WorkerRows(1, 10, 10);
        for (int i = 0; i < 3; i++) {
            due("tool", x.tool(40 + i, 5 * i), i);
        }
        for (int i = 0; i < 6; i++) {
            x.request(i % 3, i, 0);
        }
        for (int i = 0; i < 6; i++) {
            x.step();
            due("finish", x.finish(i % 3), i);
            due("result " + i, x.result(i), fresh(40 + i % 3, i) + (i < 3 ? 0 : 5 * (i % 3)));
        }
    }

    // Promise 3

    private static void editionEndsTheWorkersOfItsToolAlone() {
        WorkerRows x = new WorkerRows(4, 10, 10);
        x.tool(1, 0);
        x.tool(2, 0);
        x.request(0, 1, 0);
        x.request(1, 2, 0);
        x.request(0, 3, 0);
        x.request(0, 4, 0);
        due("step", x.step(), 4);
        x.finish(0);
        x.crash(2);
        for (int far : FAR) {
            due("edition of tool " + far, x.edition(far, 9), NONE);
        }
        due("edition of tool 2 of 2", x.edition(2, 9), NONE);
        dueWorker(x, 0, 0, FREE, 1, 0, NONE, 0, 0);
        due("edition ends the free and the busy one", x.edition(0, 9), 2);
        dueWorker(x, 0, 0, ENDED, 1, 0, NONE, 1, 0);
        dueWorker(x, 1, 1, BUSY, 0, 0, 1, 0, 0);
        dueWorker(x, 2, 0, ENDED, 0, 0, NONE, 3, 0);
        dueWorker(x, 3, 0, ENDED, 0, 0, NONE, 1, 0);
        due("edition once more", x.edition(0, 9), 0);
        due("the same edition", x.edition(1, 2), 1);
        dueWorker(x, 1, 1, ENDED, 0, 0, NONE, 1, 0);
    }

    private static void editionSendsRequestsBack() {
        WorkerRows x = withRequests(2, 1, 0, 2);
        x.step();
        x.cancel(1);
        due("edition", x.edition(0, 5), 2);
        dueRequest(x, 0, WAITING, NONE, 1, 0, 0);
        dueRequest(x, 1, CANCELLED, NONE, 1, 0, 0);
        due("step behind it", x.step(), 1);
        dueRequest(x, 0, RUNNING, 2, 2, 0, 0);
        x.finish(2);
        due("by the new edition", x.result(0), fresh(5, 100));
    }

    private static void editionIsForLaterWorkers() {
        WorkerRows x = withRequests(1, 1, 3, 1);
        serve(x, 1);
        x.edition(0, 7);
        due("what was done stays", x.result(0), fresh(1, 100));
        due("sampled by the worker's edition", x.sample(0), 0);
        x.request(0, 8, 0);
        x.step();
        due("crash", x.crash(1), 1);
        due("by the new worker's edition", x.result(1), fresh(7, 8));
    }

    // Promise 4

    private static void quirkIsTheOneOfNow() {
        WorkerRows x = withRequests(1, 1, 5, 3);
        for (int far : FAR) {
            due("quirk of tool " + far, x.quirk(far, 9) ? 1 : 0, 0);
        }
        due("quirk of tool 1 of 1", x.quirk(1, 9) ? 1 : 0, 0);
        serve(x, 2);
        due("first result", x.result(0), fresh(1, 100));
        due("second result", x.result(1), fresh(1, 101) + 5);
        x.step();
        due("quirk", x.quirk(0, -7) ? 1 : 0, 1);
        x.finish(0);
        due("with the quirk at its finish", x.result(2), fresh(1, 102) - 14);
        due("earlier ones stay", x.result(1), fresh(1, 101) + 5);
    }

    // Promise 5

    private static void requestsHaveTheirOwnInputsAndSizes() {
        WorkerRows x = new WorkerRows(4, 10000, 10);
        x.tool(1, 0);
        for (int i = 0; i < 4; i++) {
            due("request", x.request(0, -7 * i, 10 + i), i);
            dueRequest(x, i, WAITING, NONE, 0, 0, 0);
        }
        x.step();
        for (int i = 0; i < 4; i++) {
            due("finish", x.finish(i), i);
            due("result " + i, x.result(i), fresh(1, -7 * i));
            due("memory of worker " + i, x.worker(i, 3), 10 + i);
        }
    }

    // Promise 6

    private static void cancelOfEachState() {
        WorkerRows x = withRequests(2, 1, 0, 4);
        for (int far : FAR) {
            due("cancel of " + far, x.cancel(far), NONE);
        }
        due("cancel of 4 of 4", x.cancel(4), NONE);
        due("a waiting one", x.cancel(1), 1);
        due("a cancelled one", x.cancel(1), 0);
        dueRequest(x, 1, CANCELLED, NONE, 0, 0, 0);
        due("step passes over it", x.step(), 2);
        due("a running one", x.cancel(0), 2);
        due("an unwanted one", x.cancel(0), 2);
        dueRequest(x, 0, RUNNING, 0, 1, 1, 0);
        x.finish(1);
        due("a done one", x.cancel(2), 0);
        dueRequest(x, 2, DONE, 1, 1, 0, 0);
    }

    // Promise 7

    private static void stepTakesTheLeastFreeWorker() {
        WorkerRows x = new WorkerRows(3, 100, 10);
        x.tool(1, 0);
        x.tool(2, 0);
        x.request(1, 1, 0);
        x.request(0, 2, 0);
        x.request(0, 3, 0);
        due("step", x.step(), 3);
        x.finish(2);
        x.finish(1);
        x.finish(0);
        x.request(0, 4, 0);
        due("step", x.step(), 1);
        dueRequest(x, 3, RUNNING, 1, 1, 0, 0);
        dueWorker(x, 0, 1, FREE, 1, 0, NONE, 0, 0);
        due("no other was started", x.worker(3, 0), NONE);
    }

    private static void stepStartsAtMostMostForEachTool() {
        WorkerRows x = new WorkerRows(2, 100, 10);
        x.tool(1, 0);
        x.tool(2, 0);
        for (int i = 0; i < 6; i++) {
            x.request(i / 3, i, 0);
        }
        due("two of each tool", x.step(), 4);
        dueRequest(x, 2, WAITING, NONE, 0, 0, 0);
        dueRequest(x, 3, RUNNING, 2, 1, 0, 0);
        due("again", x.step(), 0);
        x.crash(0);
        due("in place of the ended one", x.step(), 1);
        dueRequest(x, 2, RUNNING, 4, 1, 0, 0);
        dueRequest(x, 5, WAITING, NONE, 0, 0, 0);
    }

    private static void stepAnswersBarredOnesAtOnce() {
        WorkerRows x = new WorkerRows(1, 100, 10);
        x.tool(1, 1);
        x.tool(9, 1);
        barOften(x, 0, 2);
        int last = x.request(0, 77, 0);
        due("two bars begin with a worker", x.step(), 1);
        due("two bars begin with a worker", x.about(last, 0), RUNNING);
        x.finish(2);
        barOften(x, 0, 1);
        due("bars", x.bars(0), 3);
        int first = x.request(0, 5, 0);
        int second = x.request(0, 6, 0);
        int other = x.request(1, 7, 0);
        due("a new edition does not lift it", x.edition(0, 40), 0);
        due("all three", x.step(), 3);
        dueRequest(x, first, DONE, NONE, 0, 0, 0);
        dueRequest(x, second, DONE, NONE, 0, 0, 0);
        due("by the tool's edition", x.result(first), fresh(40, 5));
        due("by the tool's edition", x.result(second), fresh(40, 6));
        due("another tool isn't barred", x.about(other, 0), RUNNING);
        due("not done by a worker", x.sample(first), NONE);
    }

    // Promise 8

    private static void finishGivesAndFrees() {
        WorkerRows x = new WorkerRows(2, 1000, 10);
        x.tool(-3, 1000);
        x.request(0, -8, 400);
        x.request(0, -9, 600);
        for (int far : FAR) {
            due("finish of " + far, x.finish(far), NONE);
        }
        due("finish of a worker that isn't there yet", x.finish(0), NONE);
        due("step", x.step(), 2);
        due("finish", x.finish(1), 1);
        dueRequest(x, 1, DONE, 1, 1, 0, 0);
        dueWorker(x, 1, 0, FREE, 1, 600, NONE, 0, 0);
        due("result", x.result(1), fresh(-3, -9));
        due("finish of a free one", x.finish(1), NONE);
        due("finish", x.finish(0), 0);
        x.request(0, 1, 600);
        x.step();
        due("finish", x.finish(0), 2);
        due("result of the second", x.result(2), fresh(-3, 1) + 1000);
        dueWorker(x, 0, 0, FREE, 2, 1000, NONE, 0, 0);
    }

    private static void finishEndsAboveTheBound() {
        WorkerRows x = new WorkerRows(1, 10, 10);
        x.tool(1, 0);
        x.request(0, 1, 10);
        x.request(0, 2, 1);
        x.request(0, 3, 0);
        serve(x, 1);
        dueWorker(x, 0, 0, FREE, 1, 10, NONE, 0, 0);
        serve(x, 1);
        dueWorker(x, 0, 0, ENDED, 2, 11, NONE, 2, 0);
        dueRequest(x, 1, DONE, 0, 1, 0, 0);
        due("finish of an ended one", x.finish(0), NONE);
        x.step();
        dueRequest(x, 2, RUNNING, 1, 1, 0, 0);
    }

    private static void finishOfAnUnwantedOne() {
        WorkerRows x = new WorkerRows(1, 10, 10);
        x.tool(1, 6);
        x.request(0, 1, 4);
        x.request(0, 2, 6);
        x.request(0, 3, 1);
        x.step();
        x.cancel(0);
        due("finish", x.finish(0), 0);
        dueRequest(x, 0, CANCELLED, NONE, 1, 0, 0);
        due("no result", x.result(0), 0);
        dueWorker(x, 0, 0, FREE, 1, 4, NONE, 0, 0);
        serve(x, 1);
        due("it counts as finished", x.result(1), fresh(1, 2) + 6);
        x.step();
        x.cancel(2);
        due("finish", x.finish(0), 2);
        dueWorker(x, 0, 0, ENDED, 3, 11, NONE, 2, 0);
        dueRequest(x, 2, CANCELLED, NONE, 1, 0, 0);
    }

    // Promise 9

    private static void crashOfBusyFreeAndEnded() {
        WorkerRows x = new WorkerRows(3, 100, 10);
        x.tool(1, 50);
        x.request(0, 1, 9);
        x.request(0, 2, 9);
        x.request(0, 3, 9);
        for (int far : FAR) {
            due("crash of " + far, x.crash(far), NONE);
        }
        due("crash of a worker that isn't there yet", x.crash(0), NONE);
        x.step();
        x.finish(0);
        x.request(0, 4, 9);
        x.step();
        due("crash of a busy one", x.crash(0), 1);
        dueRequest(x, 3, DONE, NONE, 1, 0, 0);
        due("without the quirk", x.result(3), fresh(1, 4));
        dueWorker(x, 0, 0, ENDED, 1, 9, NONE, 3, 0);
        due("crash of an ended one", x.crash(0), NONE);
        dueRequest(x, 0, DONE, 0, 1, 0, 0);
        x.cancel(1);
        due("crash with an unwanted one", x.crash(1), 1);
        dueRequest(x, 1, CANCELLED, NONE, 1, 0, 0);
        due("no result", x.result(1), 0);
        x.finish(2);
        due("crash of a free one", x.crash(2), 1);
        dueWorker(x, 2, 0, ENDED, 1, 9, NONE, 3, 0);
        dueRequest(x, 2, DONE, 2, 1, 0, 0);
    }

    // Promise 10

    private static void tickEndsIdleOnes() {
        WorkerRows x = withRequests(4, 1, 0, 4);
        x.step();
        x.finish(0);
        x.crash(3);
        x.tick(3);
        x.finish(1);
        due("nine ticks free", x.tick(6), 0);
        due("no tick", x.tick(0), 0);
        due("ten ticks free", x.tick(1), 1);
        dueWorker(x, 0, 0, ENDED, 1, 0, NONE, 4, 0);
        dueWorker(x, 1, 0, FREE, 1, 0, NONE, 0, 0);
        due("the other", x.tick(10000), 1);
        dueWorker(x, 1, 0, ENDED, 1, 0, NONE, 4, 0);
        dueWorker(x, 2, 0, BUSY, 0, 0, 2, 0, 0);
        dueWorker(x, 3, 0, ENDED, 0, 0, NONE, 3, 0);
        due("none are left", x.tick(10000), 0);
    }

    private static void tickCountsFromTheLastFinish() {
        WorkerRows x = withRequests(1, 1, 0, 2);
        serve(x, 1);
        x.tick(9);
        x.step();
        due("a busy one", x.tick(50), 0);
        x.finish(0);
        due("nine ticks behind its last", x.tick(9), 0);
        due("ten ticks behind its last", x.tick(1), 1);
        WorkerRows both = new WorkerRows(4, 10, 5);
        both.tool(1, 0);
        both.tool(2, 0);
        both.request(0, 1, 0);
        both.request(1, 1, 0);
        both.step();
        both.finish(0);
        both.finish(1);
        due("of both tools", both.tick(5), 2);
    }

    // Promise 11

    private static void sampleThatIsTheSame() {
        WorkerRows x = withRequests(1, 1, 0, 5);
        serve(x, 4);
        due("the third", x.sample(2), 0);
        due("trusted up to it", x.worker(0, 6), 3);
        due("an earlier one", x.sample(0), 0);
        due("no trust is lost", x.worker(0, 6), 3);
        due("the fourth", x.sample(3), 0);
        due("trusted up to it", x.worker(0, 6), 4);
        dueWorker(x, 0, 0, FREE, 4, 0, NONE, 0, 4);
        dueRequest(x, 3, DONE, 0, 1, 0, 0);
        due("bars", x.bars(0), 0);
    }

    private static void sampleThatDiffers() {
        WorkerRows x = withRequests(1, 1, 0, 6);
        serve(x, 2);
        x.sample(1);
        x.quirk(0, 4);
        serve(x, 3);
        due("the last", x.result(4), fresh(1, 104) + 16);
        due("all behind the trusted", x.sample(4), 3);
        for (int i = 0; i < 5; i++) {
            due("result " + i, x.result(i), fresh(1, 100 + i));
            boolean trusted = i < 2;
            dueRequest(x, i, DONE, trusted ? 0 : NONE, 1, 0, trusted ? 0 : 1);
        }
        dueWorker(x, 0, 0, ENDED, 5, 0, NONE, 5, 2);
        due("bars", x.bars(0), 1);
        due("a redone one", x.sample(3), NONE);
        due("a trusted one still", x.sample(0), 0);
        due("a new worker", x.step(), 1);
        dueRequest(x, 5, RUNNING, 1, 1, 0, 0);
    }

    private static void sampleOfATrustedOneThatDiffers() {
        WorkerRows x = withRequests(1, 1, 1, 5);
        serve(x, 3);
        x.quirk(0, 0);
        serve(x, 1);
        due("the fourth is the same", x.sample(3), 0);
        due("trusted up to it", x.worker(0, 6), 4);
        x.quirk(0, 2);
        serve(x, 1);
        due("the second, and the one behind the trusted", x.sample(1), 2);
        dueRequest(x, 0, DONE, 0, 1, 0, 0);
        dueRequest(x, 1, DONE, NONE, 1, 0, 1);
        dueRequest(x, 2, DONE, 0, 1, 0, 0);
        dueRequest(x, 3, DONE, 0, 1, 0, 0);
        dueRequest(x, 4, DONE, NONE, 1, 0, 1);
        due("what is trusted stays", x.result(2), fresh(1, 102) + 2);
        due("the redone", x.result(4), fresh(1, 104));
        due("the third, alone", x.sample(2), 1);
        due("trusted", x.worker(0, 6), 4);
        due("bars", x.bars(0), 2);
        due("ended once", x.worker(0, 5), 5);
    }

    private static void sampleOfWhatIsNotByAWorker() {
        WorkerRows x = withRequests(2, 1, 1, 4);
        for (int far : FAR) {
            due("sample of " + far, x.sample(far), NONE);
        }
        due("sample of 4 of 4", x.sample(4), NONE);
        due("a waiting one", x.sample(0), NONE);
        x.step();
        due("a running one", x.sample(0), NONE);
        x.crash(0);
        due("one by a crash", x.sample(0), NONE);
        x.cancel(3);
        due("a cancelled one", x.sample(3), NONE);
        due("bars", x.bars(0), 0);
    }

    private static void sampleEndsABusyWorker() {
        WorkerRows x = withRequests(2, 1, 1, 6);
        x.step();
        x.finish(1);
        x.step();
        x.finish(1);
        x.finish(0);
        x.step();
        dueRequest(x, 3, RUNNING, 0, 1, 0, 0);
        dueRequest(x, 4, RUNNING, 1, 1, 0, 0);
        due("both of worker 1 alone", x.sample(2), 2);
        dueWorker(x, 1, 0, ENDED, 2, 0, NONE, 5, 0);
        dueWorker(x, 0, 0, BUSY, 1, 0, 3, 0, 0);
        dueRequest(x, 0, DONE, 0, 1, 0, 0);
        dueRequest(x, 4, WAITING, NONE, 1, 0, 0);
        due("it begins again", x.step(), 1);
        dueRequest(x, 4, RUNNING, 2, 2, 0, 0);
        x.finish(0);
        x.crash(0);
        due("one of a crashed worker", x.sample(3), 2);
        dueWorker(x, 0, 0, ENDED, 2, 0, NONE, 3, 0);
        due("bars", x.bars(0), 2);
    }

    private static void sampleWhenAnUnwantedOneIsRunning() {
        WorkerRows x = withRequests(1, 1, 1, 3);
        serve(x, 2);
        x.step();
        x.cancel(2);
        due("both", x.sample(1), 2);
        dueRequest(x, 2, CANCELLED, NONE, 1, 0, 0);
        due("nothing waits", x.step(), 0);
    }

    private static void sampleCountsUnwantedPlaces() {
        WorkerRows x = withRequests(1, 1, 0, 4);
        x.step();
        x.cancel(0);
        x.finish(0);
        serve(x, 1);
        due("the second", x.sample(1), 0);
        due("trusted up to two", x.worker(0, 6), 2);
        x.quirk(0, 3);
        x.step();
        x.cancel(2);
        x.finish(0);
        serve(x, 1);
        due("cancelled ones are not redone", x.sample(3), 1);
        dueRequest(x, 2, CANCELLED, NONE, 1, 0, 0);
    }

    // Promise 12

    private static void aboutEachWhat() {
        WorkerRows x = withRequests(1, 1, 0, 2);
        for (int far : FAR) {
            due("about(" + far + ", 0)", x.about(far, 0), NONE);
            due("about(0, " + far + ")", x.about(0, far), NONE);
        }
        due("about(2, 0) of two", x.about(2, 0), NONE);
        due("about(0, 5)", x.about(0, 5), NONE);
        dueRequest(x, 0, WAITING, NONE, 0, 0, 0);
        x.step();
        dueRequest(x, 0, RUNNING, 0, 1, 0, 0);
        x.edition(0, 2);
        x.step();
        x.cancel(0);
        dueRequest(x, 0, RUNNING, 1, 2, 1, 0);
        x.finish(1);
        dueRequest(x, 0, CANCELLED, NONE, 2, 0, 0);
        x.step();
        x.finish(1);
        dueRequest(x, 1, DONE, 1, 1, 0, 0);
    }

    // Promise 13

    private static void resultOfEachState() {
        WorkerRows x = withRequests(1, 1, 0, 2);
        for (int far : FAR) {
            due("result of " + far, x.result(far), 0);
        }
        due("result of 2 of 2", x.result(2), 0);
        due("a waiting one", x.result(0), 0);
        x.step();
        due("a running one", x.result(0), 0);
        x.finish(0);
        due("a done one", x.result(0), fresh(1, 100));
        x.cancel(1);
        due("a cancelled one", x.result(1), 0);
    }

    // Promise 14

    private static void workerEachWhat() {
        WorkerRows x = new WorkerRows(1, 10, 10);
        x.tool(1, 0);
        x.tool(2, 0);
        x.request(1, 1, 7);
        due("worker(0, 0) before it is there", x.worker(0, 0), NONE);
        x.step();
        for (int far : FAR) {
            due("worker(" + far + ", 0)", x.worker(far, 0), NONE);
            due("worker(0, " + far + ")", x.worker(0, far), NONE);
        }
        due("worker(1, 0) of one", x.worker(1, 0), NONE);
        due("worker(0, 7)", x.worker(0, 7), NONE);
        dueWorker(x, 0, 1, BUSY, 0, 0, 0, 0, 0);
        x.finish(0);
        dueWorker(x, 0, 1, FREE, 1, 7, NONE, 0, 0);
        x.sample(0);
        dueWorker(x, 0, 1, FREE, 1, 7, NONE, 0, 1);
        x.edition(1, 2);
        dueWorker(x, 0, 1, ENDED, 1, 7, NONE, 1, 1);
    }

    // Promise 15

    private static void barsOfATool() {
        WorkerRows x = new WorkerRows(1, 100, 10);
        x.tool(1, 0);
        x.tool(2, 1);
        for (int far : FAR) {
            due("bars of " + far, x.bars(far), NONE);
        }
        due("bars of tool 2 of 2", x.bars(2), NONE);
        for (int i = 0; i < 5; i++) {
            x.request(1, i, 0);
        }
        serve(x, 4);
        x.quirk(1, 0);
        serve(x, 1);
        due("all are trusted", x.sample(4), 0);
        for (int i = 1; i < 4; i++) {
            due("sample " + i, x.sample(i), 1);
            due("bars", x.bars(1), i);
        }
        due("bars of the other tool", x.bars(0), 0);
    }

    // Promise 16

    private static void oneShotOfKnownOnes() {
        WorkerRows x = new WorkerRows(1, 1, 1);
        due("oneShot(7, 5)", x.oneShot(7, 5), -2477363030560486656L);
        due("oneShot(-1, 123456789012345)", x.oneShot(-1, 123456789012345L), -155826393916119892L);
        x.tool(7, 0);
        due("no tool has a say in it", x.oneShot(7, 5), -2477363030560486656L);
    }
}
