import java.math.BigInteger;

/** A method for each sentence before the promises that names a boundary: the last within, the first beyond. */
public final class TermsBoundaryTest extends Scenes {
    private static final long[] EDGES = {0, 1, -1, 2, (1L << 31) - 1, 1L << 31, 1L << 32, 1L << 62,
        Long.MIN_VALUE, Long.MIN_VALUE + 1, Long.MAX_VALUE, 0x9E3779B97F4A7C15L};

    public static void main(String[] args) {
        theLastOfTheCalls();
        sixTools();
        oneShotIsModulo();
        sixtyWorkersInAll();
        sixtyAreFreeToBeUsedAgain();
        aHundredRequests();
        sizesOfRequests();
        givenWithTheLeastAndTheMostFinished();
        givenWithTheQuirksEdges();
        givenIsModulo();
        barredFromThreeBarsOn();
        barredForGood();
        waitingByNumbers();
        leastNumberOfTheFree();
        fewerThanMost();
        mostIsOfEachTool();
        fewerThanSixty();
        waitsOn();
        memoryAboveTheBound();
        memoryOfUnwantedOnes();
        freeSinceTheClocksTime();
        crashUnlessEnded();
        editionOfThoseNotEnded();
        freeForIdleTicks();
        freeForIdleTicksInOneCall();
        busyForIdleTicks();
        trustedUpToThatOne();
        redoneBehindTheLastTrusted();
        redoneWithNoneTrusted();
        redoneWithAllTrusted();
        differsByTheLeast();
        endedIfItIsNotYet();
        Check.end();
    }

    private static void theLastOfTheCalls() {
        says("An object is used for at most 512 calls after it has been made");
        WorkerRows x = new WorkerRows(1, 10, 1000);
        x.tool(1, 0);
        x.request(0, 1, 0);
        x.step();
        for (int call = 4; call <= 509; call++) {
            x.tick(10000);
        }
        due("the 510th call", x.finish(0), 0);
        due("the 511th call", x.tick(999), 0);
        due("the 512th call", x.tick(1), 1);
    }

    private static void sixTools() {
        says("TOOLS, at most 6, numbered from 0");
        WorkerRows x = new WorkerRows(1, 10, 10);
        for (int i = 0; i < 6; i++) {
            due("no tool " + i + " yet", x.bars(i), NONE);
            due("tool", x.tool(Long.MIN_VALUE + i, i), i);
            due("tool " + i + " is there", x.bars(i), 0);
        }
        due("a seventh", x.tool(1, 1), NONE);
        due("no tool 6", x.bars(6), NONE);
        due("request of the last", x.request(5, 1, 1), 0);
        x.step();
        x.finish(0);
        due("by the last one's edition", x.result(0), fresh(Long.MIN_VALUE + 5, 1));
    }

    private static void oneShotIsModulo() {
        says("behind both INPUT is added once (all modulo 2 to the 64)");
        WorkerRows x = new WorkerRows(1, 1, 1);
        for (long edition : EDGES) {
            for (long input : EDGES) {
                due("oneShot(" + edition + ", " + input + ")", x.oneShot(edition, input), byHand(edition, input));
            }
            due("only the input is left of " + edition, x.oneShot(edition, edition), edition);
        }
    }

    /** In numbers without an end, so that nothing wraps around but what is cut here. */
    private static long byHand(long edition, long input) {
        BigInteger all = BigInteger.ONE.shiftLeft(64);
        BigInteger r = BigInteger.valueOf(edition ^ input).mod(all);
        for (int i = 0; i < 2; i++) {
            r = r.xor(r.shiftRight(31)).multiply(new BigInteger("9E3779B97F4A7C15", 16)).mod(all);
        }
        return r.add(BigInteger.valueOf(input)).mod(all).longValue();
    }

    /** Tool 0 has used so many workers, one by one; all of them crashed. */
    private static WorkerRows withEnded(int most, int workers) {
        WorkerRows x = new WorkerRows(most, 100000, 10);
        x.tool(1, 0);
        for (int i = 0; i < workers; i++) {
            x.request(0, i, 0);
            x.step();
            x.crash(i);
        }
        return x;
    }

    private static void sixtyWorkersInAll() {
        says("WORKERS, at most 60 in all, numbered from 0");
        WorkerRows x = withEnded(4, 59);
        dueWorker(x, 0, 0, ENDED, 0, 0, NONE, 3, 0);
        dueWorker(x, 58, 0, ENDED, 0, 0, NONE, 3, 0);
        due("no worker 59 yet", x.worker(59, 0), NONE);
        x.request(0, 59, 0);
        due("the sixtieth", x.step(), 1);
        dueWorker(x, 59, 0, BUSY, 0, 0, 59, 0, 0);
        x.request(0, 60, 0);
        due("no more", x.step(), 0);
        due("no worker 60", x.worker(60, 0), NONE);
        x.crash(59);
        due("none in place of an ended one", x.step(), 0);
        due("no worker 60", x.worker(60, 0), NONE);
    }

    private static void sixtyAreFreeToBeUsedAgain() {
        says("Else, if a WORKER of its TOOL is FREE: the one with the least number is BUSY with it (with 60)");
        WorkerRows x = withEnded(1, 59);
        for (int i = 59; i < 62; i++) {
            x.request(0, i, 0);
            due("by the sixtieth", x.step(), 1);
            due("by the sixtieth", x.finish(59), i);
        }
        due("finished by the sixtieth", x.worker(59, 2), 3);
    }

    private static void aHundredRequests() {
        says("REQUESTS, at most 100, numbered from 0");
        WorkerRows x = new WorkerRows(1, 100000, 10);
        x.tool(1, 0);
        for (int i = 0; i < 100; i++) {
            due("no request " + i + " yet", x.about(i, 0), NONE);
            due("request", x.request(0, i, 0), i);
        }
        due("a hundred and first", x.request(0, 1, 0), NONE);
        due("no request 100", x.about(100, 0), NONE);
        for (int i = 0; i < 99; i++) {
            x.cancel(i);
        }
        due("cancelled ones make no room", x.request(0, 1, 0), NONE);
        due("the last one", x.step(), 1);
        due("the last one", x.finish(0), 99);
        due("the last one", x.result(99), fresh(1, 99));
    }

    private static void sizesOfRequests() {
        says("REQUESTS .. are of a TOOL, with an INPUT and a SIZE (0 .. 1000)");
        WorkerRows x = new WorkerRows(1, 100000, 10);
        x.tool(1, 0);
        int[] within = {0, 1, 999, 1000};
        int memory = 0;
        for (int i = 0; i < within.length; i++) {
            due("size " + within[i], x.request(0, 1, within[i]), i);
            serve(x, 1);
            memory += within[i];
            due("memory", x.worker(0, 3), memory);
        }
        for (int beyond : new int[] {-1, 1001, Integer.MIN_VALUE, Integer.MAX_VALUE}) {
            due("size " + beyond, x.request(0, 1, beyond), NONE);
        }
        due("none of those is there", x.about(within.length, 0), NONE);
    }

    private static void givenWithTheLeastAndTheMostFinished() {
        says("QUIRK (the TOOL's, now) times how many REQUESTS it FINISHED before");
        for (int quirk : new int[] {1, -1, Integer.MAX_VALUE, Integer.MIN_VALUE}) {
            WorkerRows x = withRequests(1, -1, quirk, 100);
            serve(x, 100);
            due("the first of quirk " + quirk, x.result(0), fresh(-1, 100));
            due("the second of quirk " + quirk, x.result(1), fresh(-1, 101) + quirk);
            due("the third of quirk " + quirk, x.result(2), fresh(-1, 102) + 2L * quirk);
            due("the last of quirk " + quirk, x.result(99), fresh(-1, 199) + 99L * quirk);
        }
    }

    private static void givenWithTheQuirksEdges() {
        says("QUIRK (the TOOL's, now)");
        WorkerRows x = withRequests(1, 5, Integer.MAX_VALUE, 3);
        serve(x, 1);
        x.step();
        x.quirk(0, Integer.MIN_VALUE);
        x.finish(0);
        due("the one at its end", x.result(1), fresh(5, 101) + Integer.MIN_VALUE);
        x.quirk(0, 0);
        serve(x, 1);
        due("none", x.result(2), fresh(5, 102));
    }

    private static void givenIsModulo() {
        says("What a WORKER gives (modulo 2 to the 64)");
        long[] inputs = {Long.MAX_VALUE, Long.MIN_VALUE};
        int[] quirks = {1, -1};
        long[] given = {Long.MIN_VALUE, Long.MAX_VALUE};
        for (int i = 0; i < inputs.length; i++) {
            WorkerRows x = new WorkerRows(1, 10, 10);
            x.tool(inputs[i], quirks[i]);
            x.request(0, inputs[i], 0);
            x.request(0, inputs[i], 0);
            serve(x, 2);
            due("the last one within", x.result(0), inputs[i]);
            due("the first one beyond", x.result(1), given[i]);
        }
    }

    /** Bars one by one: what is TRUSTED differs, so that each sample redoes one alone. */
    private static WorkerRows withBars(int bars) {
        WorkerRows x = withRequests(1, 1, 1, bars + 2);
        serve(x, bars + 1);
        x.quirk(0, 0);
        serve(x, 1);
        due("sample of the last", x.sample(bars + 1), 0);
        for (int i = 1; i <= bars; i++) {
            due("sample of an earlier one", x.sample(i), 1);
        }
        due("bars", x.bars(0), bars);
        return x;
    }

    private static void barredFromThreeBarsOn() {
        says("its TOOL has a BAR more: with three or more, it is BARRED");
        for (int bars = 0; bars <= 5; bars++) {
            WorkerRows x = withBars(bars);
            int request = x.request(0, 9, 0);
            due("step with " + bars + " bars", x.step(), 1);
            if (bars < 3) {
                dueRequest(x, request, RUNNING, bars == 0 ? 0 : 1, 1, 0, 0);
            } else {
                dueRequest(x, request, DONE, NONE, 0, 0, 0);
                due("by the tool's edition", x.result(request), fresh(1, 9));
            }
        }
    }

    private static void barredForGood() {
        says("with three or more, it is BARRED (for good)");
        WorkerRows x = withBars(3);
        x.quirk(0, 0);
        due("a new edition", x.edition(0, 2), 0);
        x.tick(10000);
        due("another tool", x.tool(3, 0), 1);
        int barred = x.request(0, 9, 0);
        int other = x.request(1, 9, 0);
        due("both", x.step(), 2);
        dueRequest(x, barred, DONE, NONE, 0, 0, 0);
        due("by the edition of now", x.result(barred), fresh(2, 9));
        due("the other tool isn't barred", x.about(other, 0), RUNNING);
        due("bars stay", x.bars(0), 3);
    }

    private static void waitingByNumbers() {
        says("A STEP: for each REQUEST that is WAITING, by numbers");
        WorkerRows x = withRequests(1, 1, 0, 100);
        due("the first", x.step(), 1);
        x.edition(0, 2);
        due("the first again, though it came back last", x.step(), 1);
        dueRequest(x, 0, RUNNING, 1, 2, 0, 0);
        dueRequest(x, 1, WAITING, NONE, 0, 0, 0);
        x.finish(1);
        for (int i = 1; i < 99; i++) {
            x.cancel(i);
        }
        due("the last", x.step(), 1);
        dueRequest(x, 99, RUNNING, 1, 1, 0, 0);
    }

    private static void leastNumberOfTheFree() {
        says("Else, if a WORKER of its TOOL is FREE: the one with the least number is BUSY with it");
        WorkerRows x = withRequests(4, 1, 0, 7);
        x.step();
        x.finish(3);
        x.finish(1);
        due("two are free", x.step(), 2);
        dueRequest(x, 4, RUNNING, 1, 1, 0, 0);
        dueRequest(x, 5, RUNNING, 3, 1, 0, 0);
        dueRequest(x, 6, WAITING, NONE, 0, 0, 0);
    }

    private static void fewerThanMost() {
        says("Else, if fewer than MOST WORKERS of the TOOL aren't ENDED .. a new one is");
        for (int most = 1; most <= 4; most++) {
            WorkerRows x = withRequests(most, 1, 0, most + 2);
            due("as many as may be", x.step(), most);
            due("the last one within", x.about(most - 1, 1), most - 1);
            due("the first one beyond", x.about(most, 0), WAITING);
            due("no worker for it", x.worker(most, 0), NONE);
            due("again", x.step(), 0);
            x.crash(most - 1);
            due("one more in place of the ended one", x.step(), 1);
            dueRequest(x, most, RUNNING, most, 1, 0, 0);
            dueRequest(x, most + 1, WAITING, NONE, 0, 0, 0);
        }
    }

    private static void mostIsOfEachTool() {
        says("fewer than MOST WORKERS of the TOOL");
        WorkerRows x = new WorkerRows(4, 10, 10);
        for (int tool = 0; tool < 6; tool++) {
            x.tool(tool, 0);
            for (int i = 0; i < 5; i++) {
                x.request(tool, i, 0);
            }
        }
        due("four of each tool", x.step(), 24);
        for (int request = 0; request < 30; request++) {
            due("request " + request, x.about(request, 0), request % 5 == 4 ? WAITING : RUNNING);
        }
        due("no worker 24", x.worker(24, 0), NONE);
    }

    private static void fewerThanSixty() {
        says(".. and there are fewer than 60: a new one is");
        WorkerRows x = withEnded(4, 58);
        x.tool(2, 0);
        int last = x.request(1, 1, 0);
        int beyond = x.request(0, 2, 0);
        x.request(0, 3, 0);
        due("with 58 there are two more", x.step(), 2);
        dueRequest(x, last, RUNNING, 58, 1, 0, 0);
        dueRequest(x, beyond, RUNNING, 59, 1, 0, 0);
        dueRequest(x, beyond + 1, WAITING, NONE, 0, 0, 0);
        due("with 60 there is none", x.step(), 0);
    }

    private static void waitsOn() {
        says("Else it WAITS on");
        WorkerRows x = new WorkerRows(1, 100, 10);
        x.tool(1, 1);
        x.tool(2, 0);
        barOften(x, 0, 3);
        for (int worker = 3; worker < 59; worker++) {
            x.request(1, 1, 0);
            x.step();
            due("crash", x.crash(worker), 1);
        }
        x.tool(3, 0);
        int first = x.request(2, 4, 0);
        int waits = x.request(1, 5, 0);
        int barred = x.request(0, 6, 0);
        due("the sixtieth, and the barred one", x.step(), 2);
        dueRequest(x, first, RUNNING, 59, 1, 0, 0);
        dueRequest(x, waits, WAITING, NONE, 0, 0, 0);
        dueRequest(x, barred, DONE, NONE, 0, 0, 0);
        due("it has no result", x.result(waits), 0);
        due("it can be cancelled", x.cancel(waits), 1);
    }

    /** Of one worker that has finished this much, in sizes of at most 1000: why it ended. */
    private static int endedAt(int bound, int memory) {
        WorkerRows x = new WorkerRows(1, bound, 10);
        x.tool(1, 0);
        int left = memory;
        do {
            int size = Math.min(left, 1000);
            x.request(0, 1, size);
            serve(x, 1);
            left -= size;
        } while (left > 0);
        due("memory", x.worker(0, 3), memory);
        due("what it is", x.worker(0, 1), x.worker(0, 5) == 0 ? FREE : ENDED);
        due("no other worker", x.worker(1, 0), NONE);
        return x.worker(0, 5);
    }

    private static void memoryAboveTheBound() {
        says("it is FREE .., or, if its MEMORY is above the BOUND, ENDED (2)");
        for (int bound : new int[] {0, 1, 999, 1000, 1001, 5000, 99998, 99999}) {
            due("memory at bound " + bound, endedAt(bound, bound), 0);
            due("memory above bound " + bound, endedAt(bound, bound + 1), 2);
        }
        // No more than this can be had: a hundred requests of size 1000.
        due("memory at bound 100000", endedAt(100000, 100000), 0);
    }

    private static void memoryOfUnwantedOnes() {
        says("It has FINISHED one more, its MEMORY is more by the SIZE (of an UNWANTED one too)");
        for (int size = 10; size <= 11; size++) {
            WorkerRows x = new WorkerRows(1, 10, 10);
            x.tool(1, 0);
            x.request(0, 1, size);
            x.step();
            x.cancel(0);
            due("finish", x.finish(0), 0);
            dueWorker(x, 0, 0, size > 10 ? ENDED : FREE, 1, size, NONE, size > 10 ? 2 : 0, 0);
            dueRequest(x, 0, CANCELLED, NONE, 1, 0, 0);
        }
    }

    private static void freeSinceTheClocksTime() {
        says("it is FREE (since the CLOCK's time)");
        WorkerRows x = withRequests(1, 1, 0, 3);
        x.tick(7);
        serve(x, 1);
        due("nine ticks", x.tick(9), 0);
        serve(x, 1);
        due("nine ticks more, but busy in between", x.tick(9), 0);
        x.step();
        x.tick(9);
        x.finish(0);
        due("nine ticks more", x.tick(9), 0);
        due("the tenth", x.tick(1), 1);
    }

    private static void crashUnlessEnded() {
        says("A CRASH of a WORKER that isn't ENDED");
        for (int why = 1; why <= 5; why++) {
            WorkerRows x = endedFor(why);
            String before = allOf(x);
            due("crash of one that ended by " + why, x.crash(0), NONE);
            holds("it stays as it was", allOf(x).equals(before));
        }
        WorkerRows x = withRequests(2, 1, 0, 2);
        x.step();
        x.finish(0);
        due("crash of a free one", x.crash(0), 1);
        due("crash of a busy one", x.crash(1), 1);
        due("crash of it again", x.crash(1), NONE);
    }

    private static void editionOfThoseNotEnded() {
        says("all WORKERS of the TOOL that aren't ENDED are (1)");
        for (int why = 1; why <= 5; why++) {
            WorkerRows x = endedFor(why);
            String before = allOf(x);
            due("edition with one that ended by " + why, x.edition(0, 7), 0);
            holds("it stays as it was", allOf(x).equals(before));
        }
        WorkerRows none = withRequests(1, 1, 0, 1);
        due("edition with no worker", none.edition(0, 7), 0);
        dueRequest(none, 0, WAITING, NONE, 0, 0, 0);
        WorkerRows four = withRequests(4, 1, 0, 5);
        four.step();
        four.finish(2);
        due("edition with as many as may be", four.edition(0, 7), 4);
        for (int worker = 0; worker < 4; worker++) {
            due("why worker " + worker + " ended", four.worker(worker, 5), 1);
        }
        due("four again, by the new edition", four.step(), 4);
    }

    private static WorkerRows freeWithIdle(int idle) {
        WorkerRows x = new WorkerRows(1, 10, idle);
        x.tool(1, 0);
        x.request(0, 1, 0);
        x.request(0, 2, 0);
        x.tick(3);
        serve(x, 1);
        return x;
    }

    private static void freeForIdleTicks() {
        says("in each, WORKERS that have been FREE for IDLE ticks end (4)");
        for (int idle : new int[] {1, 2, 3, 999, 1000}) {
            WorkerRows x = freeWithIdle(idle);
            due("a tick too few for idle " + idle, x.tick(idle - 1), 0);
            dueWorker(x, 0, 0, FREE, 1, 0, NONE, 0, 0);
            due("idle " + idle, x.tick(1), 1);
            dueWorker(x, 0, 0, ENDED, 1, 0, NONE, 4, 0);
            due("it ends once", x.tick(idle), 0);
        }
        for (int idle : new int[] {2, 999, 1000}) {
            WorkerRows x = freeWithIdle(idle);
            x.tick(idle - 1);
            due("begun a tick before it ends", x.step(), 1);
            due("it is busy then", x.tick(1), 0);
            due("by the same worker", x.finish(0), 1);
        }
    }

    private static void freeForIdleTicksInOneCall() {
        says("The CLOCK goes on tick by tick");
        for (int idle : new int[] {1, 2, 1000}) {
            due("tick(idle) of idle " + idle, freeWithIdle(idle).tick(idle), 1);
            due("tick(idle + 1) of idle " + idle, freeWithIdle(idle).tick(idle + 1), 1);
            due("tick(10000) of idle " + idle, freeWithIdle(idle).tick(10000), 1);
        }
        WorkerRows x = withRequests(3, 1, 0, 3);
        x.step();
        for (int worker = 0; worker < 3; worker++) {
            x.finish(worker);
            x.tick(1);
        }
        due("the first two of three", x.tick(8), 2);
        due("the third is free still", x.worker(2, 1), FREE);
        due("the third", x.tick(1), 1);
    }

    private static void busyForIdleTicks() {
        says("WORKERS that have been FREE for IDLE ticks end (a BUSY one doesn't)");
        WorkerRows x = new WorkerRows(1, 10, 1);
        x.tool(1, 0);
        x.request(0, 1, 0);
        x.step();
        due("a busy one", x.tick(10000), 0);
        x.finish(0);
        due("free for no tick", x.tick(0), 0);
        due("it is free", x.worker(0, 1), FREE);
        due("free for one", x.tick(1), 1);
    }

    private static void trustedUpToThatOne() {
        says("of this WORKER, what it FINISHED up to that one is TRUSTED");
        WorkerRows x = withRequests(1, 1, 0, 100);
        serve(x, 100);
        due("none yet", x.worker(0, 6), 0);
        int[] sampled = {0, 1, 50, 49, 0, 98, 99, 98};
        int[] trusted = {1, 2, 51, 51, 51, 99, 100, 100};
        for (int i = 0; i < sampled.length; i++) {
            due("sample(" + sampled[i] + ")", x.sample(sampled[i]), 0);
            due("trusted behind sample(" + sampled[i] + ")", x.worker(0, 6), trusted[i]);
        }
    }

    private static void redoneBehindTheLastTrusted() {
        says("all others DONE by this WORKER that it FINISHED behind the last TRUSTED one, are REDONE");
        for (int trusted = 1; trusted <= 4; trusted++) {
            WorkerRows x = withRequests(1, 1, 0, 5);
            serve(x, trusted);
            x.sample(trusted - 1);
            x.quirk(0, 1);
            serve(x, 5 - trusted);
            due("sample of the last", x.sample(4), 5 - trusted);
            for (int i = 0; i < 5; i++) {
                boolean again = i >= trusted;
                dueRequest(x, i, DONE, again ? NONE : 0, 1, 0, again ? 1 : 0);
                due("result " + i, x.result(i), fresh(1, 100 + i));
            }
            dueWorker(x, 0, 0, ENDED, 5, 0, NONE, 5, trusted);
        }
    }

    private static void redoneWithNoneTrusted() {
        says("Else: it, and all others .. are REDONE (none TRUSTED yet)");
        WorkerRows x = withRequests(1, 1, 1, 100);
        serve(x, 100);
        due("sample of the last", x.sample(99), 100);
        dueRequest(x, 0, DONE, NONE, 1, 0, 1);
        dueRequest(x, 99, DONE, NONE, 1, 0, 1);
        due("result of the last", x.result(99), fresh(1, 199));
        due("none trusted", x.worker(0, 6), 0);
        due("sample of it again", x.sample(99), NONE);
        WorkerRows second = withRequests(1, 1, 1, 4);
        serve(second, 3);
        due("the same though there is a quirk", second.sample(0), 0);
        due("the first behind it", second.sample(1), 2);
        dueRequest(second, 0, DONE, 0, 1, 0, 0);
    }

    private static void redoneWithAllTrusted() {
        says("Else: it, and all others .. are REDONE (all TRUSTED)");
        WorkerRows x = withBars(1);
        dueRequest(x, 0, DONE, 0, 1, 0, 0);
        dueRequest(x, 1, DONE, NONE, 1, 0, 1);
        dueRequest(x, 2, DONE, 0, 1, 0, 0);
        due("redone", x.result(1), fresh(1, 101));
        dueWorker(x, 0, 0, ENDED, 3, 0, NONE, 5, 3);
    }

    private static void differsByTheLeast() {
        says("its RESULT is compared with ONE-SHOT of the WORKER's EDITION");
        for (int quirk : new int[] {1, -1, Integer.MIN_VALUE, Integer.MAX_VALUE}) {
            for (int place = 1; place <= 3; place++) {
                WorkerRows x = withRequests(1, 1, quirk, 3);
                serve(x, 3);
                due("place " + place + " with quirk " + quirk, x.sample(place - 1), place == 1 ? 0 : 3);
                due("bars", x.bars(0), place == 1 ? 0 : 1);
            }
        }
        WorkerRows none = withRequests(1, 1, 0, 3);
        serve(none, 3);
        none.edition(0, 2);
        none.quirk(0, 9);
        due("no quirk at its time", none.sample(2), 0);
    }

    private static void endedIfItIsNotYet() {
        says("it is ENDED (5), if it isn't yet");
        for (int why = 1; why <= 4; why++) {
            WorkerRows x = endedFor(why);
            due("sample of one that ended by " + why, x.sample(1), 2);
            due("it stays so", x.worker(0, 5), why);
            due("a bar all the same", x.bars(0), 1);
        }
        WorkerRows twice = withBars(2);
        dueWorker(twice, 0, 0, ENDED, 4, 0, NONE, 5, 4);
        for (int unwanted = 0; unwanted <= 1; unwanted++) {
            WorkerRows busy = withRequests(1, 1, 1, 3);
            serve(busy, 2);
            busy.step();
            if (unwanted == 1) {
                busy.cancel(2);
            }
            due("sample of a busy one", busy.sample(1), 2);
            dueWorker(busy, 0, 0, ENDED, 2, 0, NONE, 5, 0);
            dueRequest(busy, 2, unwanted == 1 ? CANCELLED : WAITING, NONE, 1, 0, 0);
        }
    }
}
