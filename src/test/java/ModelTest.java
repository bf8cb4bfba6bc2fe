import java.util.Random;

/** Long runs of mixed calls, each answered by the class and by the plain model; seeds are fixed. */
public final class ModelTest {
    private static final int RUNS = 1500;
    private static final int CALLS = 512;
    private static final int[] EDGES = {Integer.MIN_VALUE, -1, 0, 1, 1000, 1001, 10000, 10001, Integer.MAX_VALUE};

    private final int run;
    private final Random random;
    private final WorkerRows rows;
    private final PlainModel model;
    private int tools = 0;
    private int workers = 0;
    private int requests = 0;

    private ModelTest(int run) {
        this.run = run;
        random = new Random(run);
        int most = random.nextInt(6);
        int bound = random.nextBoolean() ? random.nextInt(3000) : 100000 - random.nextInt(2);
        int idle = random.nextInt(12);
        rows = new WorkerRows(most, bound, idle);
        model = new PlainModel(most, bound, idle);
    }

    public static void main(String[] args) {
        for (int run = 0; run < RUNS && !Check.anyWrong(); run++) {
            new ModelTest(run).play();
        }
        Check.end();
    }

    private void play() {
        // Some runs crash and change editions often, so that all sixty workers are used up.
        int rough = random.nextInt(4);
        for (int call = 0; call < CALLS && !Check.anyWrong(); call++) {
            int kind = random.nextInt(100);
            if (kind < 30) {
                build(kind);
            } else if (kind < 90) {
                work(kind, rough);
            } else {
                look();
            }
            if (call % 16 == 15) {
                compareAll();
            }
        }
        compareAll();
    }

    private void due(String call, long got, long want) {
        Check.due("ModelTest, run " + run + ": " + call, got, want);
    }

    /** Mostly a number that is there, at times one just beyond or far off. */
    private int oneOf(int count) {
        if (random.nextInt(25) == 0) {
            return EDGES[random.nextInt(EDGES.length)];
        }
        return random.nextInt(count + 1);
    }

    /** Of late ones more often, since the early workers are ended soon. */
    private int lateOneOf(int count) {
        return random.nextBoolean() ? oneOf(count) : count - 1 - random.nextInt(6);
    }

    private int someQuirk() {
        return random.nextInt(3) == 0 ? random.nextInt() : random.nextInt(3) - 1;
    }

    private long someLong() {
        return random.nextBoolean() ? random.nextLong() : random.nextInt(4);
    }

    private void build(int kind) {
        if (kind < 3) {
            long edition = someLong();
            int quirk = someQuirk();
            int got = rows.tool(edition, quirk);
            due("tool", got, model.tool(edition, quirk));
            tools = Math.max(tools, got + 1);
        } else if (kind < 6) {
            int tool = oneOf(tools);
            int quirk = someQuirk();
            due("quirk", rows.quirk(tool, quirk) ? 1 : 0, model.quirk(tool, quirk) ? 1 : 0);
        } else {
            int tool = oneOf(tools);
            long input = someLong();
            int size = random.nextInt(20) == 0 ? EDGES[random.nextInt(EDGES.length)] : random.nextInt(1001);
            int got = rows.request(tool, input, size);
            due("request", got, model.request(tool, input, size));
            requests = Math.max(requests, got + 1);
        }
    }

    private void work(int kind, int rough) {
        if (kind < 48) {
            due("step", rows.step(), model.step());
            while (workers < 60 && model.worker(workers, 0) >= 0) {
                workers++;
            }
        } else if (kind < 70) {
            int worker = lateOneOf(workers);
            due("finish(" + worker + ")", rows.finish(worker), model.finish(worker));
        } else if (kind < 72 + 2 * rough) {
            int worker = lateOneOf(workers);
            due("crash(" + worker + ")", rows.crash(worker), model.crash(worker));
        } else if (kind < 80) {
            int request = lateOneOf(requests);
            due("sample(" + request + ")", rows.sample(request), model.sample(request));
        } else if (kind < 83) {
            int request = lateOneOf(requests);
            due("cancel(" + request + ")", rows.cancel(request), model.cancel(request));
        } else if (kind < 88) {
            int n = random.nextInt(20) == 0 ? EDGES[random.nextInt(EDGES.length)] : random.nextInt(6);
            due("tick(" + n + ")", rows.tick(n), model.tick(n));
        } else if (random.nextInt(4) <= rough) {
            int tool = oneOf(tools);
            long edition = someLong();
            due("edition(" + tool + ")", rows.edition(tool, edition), model.edition(tool, edition));
        }
    }

    private void look() {
        int number = EDGES[random.nextInt(EDGES.length)];
        int what = random.nextBoolean() ? EDGES[random.nextInt(EDGES.length)] : random.nextInt(9);
        due("about(" + number + ", " + what + ")", rows.about(number, what), model.about(number, what));
        due("worker(" + number + ", " + what + ")", rows.worker(number, what), model.worker(number, what));
        due("bars(" + number + ")", rows.bars(number), model.bars(number));
        due("result(" + number + ")", rows.result(number), model.result(number));
        long edition = someLong();
        long input = someLong();
        due("oneShot", rows.oneShot(edition, input), PlainModel.fresh(edition, input));
    }

    private void compareAll() {
        for (int request = -1; request <= requests; request++) {
            due("result(" + request + ")", rows.result(request), model.result(request));
            for (int what = -1; what <= 5; what++) {
                due("about(" + request + ", " + what + ")", rows.about(request, what), model.about(request, what));
            }
        }
        for (int worker = -1; worker <= workers; worker++) {
            for (int what = -1; what <= 7; what++) {
                due("worker(" + worker + ", " + what + ")", rows.worker(worker, what), model.worker(worker, what));
            }
        }
        for (int tool = -1; tool <= tools; tool++) {
            due("bars(" + tool + ")", rows.bars(tool), model.bars(tool));
        }
    }
}
