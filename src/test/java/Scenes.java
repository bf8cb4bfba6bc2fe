/** What the tests of the promises share: the document's numbers, small beginnings, and looks at an object. */
abstract class Scenes {
    static final int NONE = WorkerRows.NONE;

    /** Numbers that no tool, worker or request ever has. */
    static final int[] FAR = {-1, Integer.MIN_VALUE, Integer.MAX_VALUE, 1000};

    static final int WAITING = 0;
    static final int RUNNING = 1;
    static final int DONE = 2;
    static final int CANCELLED = 3;

    static final int FREE = 0;
    static final int BUSY = 1;
    static final int ENDED = 2;

    private static String sentence = "";

    /** The sentence of the document that the next answers are looked at for; it is printed with a wrong one. */
    static void says(String words) {
        sentence = words;
    }

    static void due(String what, long got, long want) {
        Check.due("\"" + sentence + "\": " + what, got, want);
    }

    static void holds(String what, boolean held) {
        Check.holds("\"" + sentence + "\": " + what, held);
    }

    static void dueRequest(WorkerRows x, int request, int... want) {
        for (int what = 0; what < want.length; what++) {
            due("about(" + request + ", " + what + ")", x.about(request, what), want[what]);
        }
    }

    static void dueWorker(WorkerRows x, int worker, int... want) {
        for (int what = 0; what < want.length; what++) {
            due("worker(" + worker + ", " + what + ")", x.worker(worker, what), want[what]);
        }
    }

    /** ONE-SHOT, written once more from the document's words. */
    static long fresh(long edition, long input) {
        long first = edition ^ input;
        long second = (first ^ (first >>> 31)) * -7046029254386353131L;
        long third = (second ^ (second >>> 31)) * -7046029254386353131L;
        return third + input;
    }

    /** One tool and so many requests of size 0, with the inputs 100, 101, .. ; IDLE is 10. */
    static WorkerRows withRequests(int most, long edition, int quirk, int requests) {
        WorkerRows x = new WorkerRows(most, 100000, 10);
        x.tool(edition, quirk);
        for (int i = 0; i < requests; i++) {
            x.request(0, 100 + i, 0);
        }
        return x;
    }

    /** The one worker 0 begins and finishes the next so many requests. */
    static void serve(WorkerRows x, int count) {
        for (int i = 0; i < count; i++) {
            x.step();
            x.finish(0);
        }
    }

    /** Worker 0 has finished two requests, the second of which differs, and has ended for this reason. */
    static WorkerRows endedFor(int why) {
        WorkerRows x = new WorkerRows(1, 10, 10);
        x.tool(1, 1);
        x.request(0, 100, 0);
        x.request(0, 101, why == 2 ? 11 : 0);
        serve(x, 2);
        switch (why) {
            case 1 -> x.edition(0, 2);
            case 2 -> holds("its memory is above the bound", x.worker(0, 3) > 10);
            case 3 -> x.crash(0);
            case 4 -> x.tick(10);
            default -> x.sample(1);
        }
        due("why it ended", x.worker(0, 5), why);
        return x;
    }

    /** Each time a worker finishes two for the tool, and the second is sampled and differs. */
    static void barOften(WorkerRows x, int tool, int times) {
        for (int i = 0; i < times; i++) {
            int request = NONE;
            for (int j = 0; j < 2; j++) {
                request = x.request(tool, 1000 + i, 0);
                x.step();
                x.finish(x.about(request, 1));
            }
            holds("a sample differs", x.sample(request) > 0);
        }
    }

    /** All that an object tells of its tools, workers and requests. */
    static String allOf(WorkerRows x) {
        StringBuilder all = new StringBuilder();
        for (int tool = 0; tool <= 6; tool++) {
            all.append(" t").append(tool).append(' ').append(x.bars(tool));
        }
        for (int worker = 0; worker <= 60 && x.worker(worker, 0) != NONE; worker++) {
            all.append(" w").append(worker);
            for (int what = 0; what <= 6; what++) {
                all.append(' ').append(x.worker(worker, what));
            }
        }
        for (int request = 0; request <= 100 && x.about(request, 0) != NONE; request++) {
            all.append(" r").append(request).append(' ').append(x.result(request));
            for (int what = 0; what <= 4; what++) {
                all.append(' ').append(x.about(request, what));
            }
        }
        return all.toString();
    }
}
