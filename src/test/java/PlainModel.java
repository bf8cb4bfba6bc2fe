import java.util.ArrayList;
import java.util.HashMap;
import java.util.HashSet;
import java.util.LinkedHashSet;
import java.util.List;
import java.util.Map;
import java.util.Set;
import java.util.TreeSet;

/**
 * The document's words once more, held in sets and maps and with a clock that really goes tick by
 * tick, so that a slip in the class is unlikely to be repeated here.
 */
final class PlainModel {
    private final int most;
    private final int bound;
    private final int idle;
    private long clock = 0;

    private final List<Long> editions = new ArrayList<>();
    private final List<Integer> quirks = new ArrayList<>();
    private final List<Integer> barCounts = new ArrayList<>();

    private final List<Integer> toolOfWorker = new ArrayList<>();
    private final List<Long> editionOfWorker = new ArrayList<>();
    private final List<List<Integer>> finishedByWorker = new ArrayList<>();
    private final List<Integer> trustedOfWorker = new ArrayList<>();
    private final Map<Integer, Integer> freeTicks = new HashMap<>();
    private final Map<Integer, Integer> busyWith = new HashMap<>();
    private final Map<Integer, Integer> whyEnded = new HashMap<>();

    private final List<Integer> toolOfRequest = new ArrayList<>();
    private final List<Long> inputs = new ArrayList<>();
    private final List<Integer> sizes = new ArrayList<>();
    private final List<Integer> begun = new ArrayList<>();
    private final TreeSet<Integer> waiting = new TreeSet<>();
    private final Map<Integer, Long> results = new HashMap<>();
    private final Map<Integer, Integer> doneBy = new HashMap<>();
    private final Set<Integer> cancelled = new HashSet<>();
    private final Set<Integer> unwanted = new HashSet<>();
    private final Set<Integer> redone = new HashSet<>();

    PlainModel(int most, int bound, int idle) {
        this.most = most < 1 ? 1 : most > 4 ? 4 : most;
        this.bound = bound < 0 ? 0 : bound > 100000 ? 100000 : bound;
        this.idle = idle < 1 ? 1 : idle > 1000 ? 1000 : idle;
    }

    static long fresh(long edition, long input) {
        long r = edition ^ input;
        r = (r ^ (r >>> 31)) * 0x9E3779B97F4A7C15L;
        r = (r ^ (r >>> 31)) * 0x9E3779B97F4A7C15L;
        return r + input;
    }

    private static boolean has(List<?> list, int number) {
        return number >= 0 && number < list.size();
    }

    int tool(long edition, int quirk) {
        if (editions.size() == 6) {
            return -1;
        }
        editions.add(edition);
        quirks.add(quirk);
        barCounts.add(0);
        return editions.size() - 1;
    }

    int edition(int tool, long edition) {
        if (!has(editions, tool)) {
            return -1;
        }
        editions.set(tool, edition);
        List<Integer> staying = staying(tool);
        for (int worker : staying) {
            endAndRequeue(worker, 1);
        }
        return staying.size();
    }

    private List<Integer> staying(int tool) {
        List<Integer> staying = new ArrayList<>();
        for (int w = 0; w < toolOfWorker.size(); w++) {
            if (toolOfWorker.get(w) == tool && !whyEnded.containsKey(w)) {
                staying.add(w);
            }
        }
        return staying;
    }

    private void endAndRequeue(int worker, int why) {
        Integer request = busyWith.remove(worker);
        freeTicks.remove(worker);
        whyEnded.put(worker, why);
        if (request != null) {
            if (unwanted.remove(request)) {
                cancelled.add(request);
            } else {
                waiting.add(request);
            }
        }
    }

    boolean quirk(int tool, int quirk) {
        if (!has(editions, tool)) {
            return false;
        }
        quirks.set(tool, quirk);
        return true;
    }

    int request(int tool, long input, int size) {
        if (!has(editions, tool) || sizes.size() == 100 || size < 0 || size > 1000) {
            return -1;
        }
        int number = sizes.size();
        toolOfRequest.add(tool);
        inputs.add(input);
        sizes.add(size);
        begun.add(0);
        waiting.add(number);
        return number;
    }

    int cancel(int request) {
        if (!has(sizes, request)) {
            return -1;
        }
        if (waiting.remove(request)) {
            cancelled.add(request);
            return 1;
        }
        if (busyWith.containsValue(request)) {
            unwanted.add(request);
            return 2;
        }
        return 0;
    }

    int step() {
        int count = 0;
        for (int request : new ArrayList<>(waiting)) {
            int tool = toolOfRequest.get(request);
            if (barCounts.get(tool) >= 3) {
                results.put(request, fresh(editions.get(tool), inputs.get(request)));
            } else {
                int worker = workerFor(tool);
                if (worker < 0) {
                    continue;
                }
                freeTicks.remove(worker);
                busyWith.put(worker, request);
                begun.set(request, begun.get(request) + 1);
            }
            waiting.remove(request);
            count++;
        }
        return count;
    }

    private int workerFor(int tool) {
        List<Integer> staying = staying(tool);
        for (int worker : staying) {
            if (freeTicks.containsKey(worker)) {
                return worker;
            }
        }
        if (staying.size() >= most || toolOfWorker.size() >= 60) {
            return -1;
        }
        toolOfWorker.add(tool);
        editionOfWorker.add(editions.get(tool));
        finishedByWorker.add(new ArrayList<>());
        trustedOfWorker.add(0);
        return toolOfWorker.size() - 1;
    }

    private int memory(int worker) {
        int sum = 0;
        for (int request : finishedByWorker.get(worker)) {
            sum += sizes.get(request);
        }
        return sum;
    }

    int finish(int worker) {
        Integer request = busyWith.remove(worker);
        if (request == null) {
            return -1;
        }
        List<Integer> finished = finishedByWorker.get(worker);
        if (unwanted.remove(request)) {
            cancelled.add(request);
        } else {
            long quirk = quirks.get(toolOfWorker.get(worker));
            results.put(request, fresh(editionOfWorker.get(worker), inputs.get(request)) + quirk * finished.size());
            doneBy.put(request, worker);
        }
        finished.add(request);
        if (memory(worker) > bound) {
            whyEnded.put(worker, 2);
        } else {
            freeTicks.put(worker, 0);
        }
        return request;
    }

    int crash(int worker) {
        if (!has(toolOfWorker, worker) || whyEnded.containsKey(worker)) {
            return -1;
        }
        freeTicks.remove(worker);
        whyEnded.put(worker, 3);
        Integer request = busyWith.remove(worker);
        if (request != null) {
            if (unwanted.remove(request)) {
                cancelled.add(request);
            } else {
                results.put(request, fresh(editionOfWorker.get(worker), inputs.get(request)));
            }
        }
        return 1;
    }

    int tick(int n) {
        if (n < 0 || n > 10000 || clock + n > 1000000000L) {
            return -1;
        }
        int ended = 0;
        for (int i = 0; i < n; i++) {
            clock++;
            for (int worker : new ArrayList<>(freeTicks.keySet())) {
                int ticks = freeTicks.get(worker) + 1;
                freeTicks.put(worker, ticks);
                if (ticks == idle) {
                    freeTicks.remove(worker);
                    whyEnded.put(worker, 4);
                    ended++;
                }
            }
        }
        return ended;
    }

    int sample(int request) {
        Integer worker = doneBy.get(request);
        if (worker == null) {
            return -1;
        }
        List<Integer> finished = finishedByWorker.get(worker);
        long edition = editionOfWorker.get(worker);
        int trusted = trustedOfWorker.get(worker);
        if (results.get(request) == fresh(edition, inputs.get(request))) {
            trustedOfWorker.set(worker, Math.max(trusted, finished.indexOf(request) + 1));
            return 0;
        }
        Set<Integer> again = new LinkedHashSet<>(finished.subList(trusted, finished.size()));
        again.add(request);
        again.removeIf(other -> !worker.equals(doneBy.get(other)));
        for (int other : again) {
            results.put(other, fresh(edition, inputs.get(other)));
            doneBy.remove(other);
            redone.add(other);
        }
        if (!whyEnded.containsKey(worker)) {
            endAndRequeue(worker, 5);
        }
        int tool = toolOfWorker.get(worker);
        barCounts.set(tool, barCounts.get(tool) + 1);
        return again.size();
    }

    int about(int request, int what) {
        if (!has(sizes, request)) {
            return -1;
        }
        int runningBy = -1;
        for (Map.Entry<Integer, Integer> busy : busyWith.entrySet()) {
            if (busy.getValue() == request) {
                runningBy = busy.getKey();
            }
        }
        return switch (what) {
            case 0 -> waiting.contains(request) ? 0 : runningBy >= 0 ? 1 : cancelled.contains(request) ? 3 : 2;
            case 1 -> runningBy >= 0 ? runningBy : doneBy.getOrDefault(request, -1);
            case 2 -> begun.get(request);
            case 3 -> unwanted.contains(request) ? 1 : 0;
            case 4 -> redone.contains(request) ? 1 : 0;
            default -> -1;
        };
    }

    long result(int request) {
        return results.getOrDefault(request, 0L);
    }

    int worker(int worker, int what) {
        if (!has(toolOfWorker, worker)) {
            return -1;
        }
        return switch (what) {
            case 0 -> toolOfWorker.get(worker);
            case 1 -> freeTicks.containsKey(worker) ? 0 : busyWith.containsKey(worker) ? 1 : 2;
            case 2 -> finishedByWorker.get(worker).size();
            case 3 -> memory(worker);
            case 4 -> busyWith.getOrDefault(worker, -1);
            case 5 -> whyEnded.getOrDefault(worker, 0);
            case 6 -> trustedOfWorker.get(worker);
            default -> -1;
        };
    }

    int bars(int tool) {
        return has(barCounts, tool) ? barCounts.get(tool) : -1;
    }
}
