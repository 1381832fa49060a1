import java.util.Map;
import java.util.Random;
import java.util.TreeMap;

/** Runs of calls, the same ones each time, whose answers are compared with those of the plain model. */
public final class ModelTest {
    private static final int RUNS = 1500;
    private static final int CALLS = 512;
    private static final String[] MUST_BE_SEEN = {
        "append -1", "append -2", "append -3", "append -4",
        "prepend -1", "prepend -2", "prepend -3", "prepend -4",
        "set -1", "set -2",
        "concat -1", "concat -2", "concat -3", "concat -4",
        "slice -1", "slice -2",
        "insertAt -1", "insertAt -2", "insertAt -3", "insertAt -4",
        "removeAt -1", "removeAt -2", "removeAt -4",
        "thaw -1", "thaw -2",
        "push 0", "push 1", "push too tall", "put 0", "put 1", "freeze 0", "freeze 1",
    };

    /** Where a run starts: trees this near to the greatest height are rarely come upon. */
    private static final String[] STARTS = {
        Vectors.TALL_BY_APPEND, Vectors.TALL_BY_PREPEND, Vectors.TALL_BY_DOUBLE,
        Vectors.TALL_BY_INSERT_AT_43, Vectors.TALL_BY_REMOVE_AT_9,
    };

    private final Random random;
    private final Checks checks;
    private final Map<String, Integer> seen;
    private final StringBuilder calls = new StringBuilder();
    private final RelaxedRadixVector vector = new RelaxedRadixVector();
    private final PlainModel model = new PlainModel();
    /** How often a run asks, and how often it makes its base longer, differs from run to run. */
    private final int questions;
    private final int growth;
    private int left = CALLS;

    private ModelTest(long seed, Checks checks, Map<String, Integer> seen) {
        this.random = new Random(seed);
        this.checks = checks;
        this.seen = seen;
        this.questions = 20 + random.nextInt(60);
        this.growth = random.nextInt(81);
    }

    public static void main(String[] args) {
        Checks checks = new Checks();
        Map<String, Integer> seen = new TreeMap<>();
        for (int run = 0; run < RUNS && checks.allAsDue(); run++) {
            ModelTest test = new ModelTest(run, checks, seen);
            test.run();
            if (!checks.allAsDue()) {
                System.out.println("run " + run + ": " + test.calls);
            }
        }
        for (String answer : MUST_BE_SEEN) {
            checks.due("was there ever '" + answer + "'", seen.containsKey(answer), true);
        }
        checks.finish();
    }

    private void run() {
        int start = random.nextInt(16);
        if (start < STARTS.length) {
            for (String edit : STARTS[start].split("; *")) {
                follow(edit.split(" "));
            }
        } else if (start < 13) {
            pushAll(growth);
        }
        while (left > 0 && checks.allAsDue()) {
            if (random.nextInt(100) < questions) {
                ask(random.nextInt(9));
            } else {
                edit(random.nextInt(11));
            }
        }
    }

    private void pushAll(int count) {
        compared("thaw", "0", vector.thaw(0), model.thaw(0));
        for (int n = 0; n < count; n++) {
            push(1, element());
        }
        freeze(1);
    }

    private void follow(String[] words) {
        int v = model.versions() - 1;
        int number = words.length > 1 ? Integer.parseInt(words[1]) : 0;
        switch (words[0]) {
            case "push" -> pushAll(number);
            case "append" -> append(v, element());
            case "prepend" -> prepend(v, element());
            case "insertAt" -> insertAt(v, number, element());
            case "removeAt" -> removeAt(v, number);
            default -> concat(v, v);
        }
    }

    /** Small numbers often, so that versions are alike at many places; now and then an edge. */
    private int element() {
        int kind = random.nextInt(10);
        if (kind == 0) {
            return random.nextBoolean() ? Integer.MAX_VALUE : Integer.MIN_VALUE;
        }
        return kind == 1 ? random.nextInt() : random.nextInt(5) - 2;
    }

    private int version() {
        int there = model.versions();
        int kind = random.nextInt(40);
        if (kind == 0) {
            int[] wrong = {-1, there, 40, 41, Integer.MAX_VALUE, Integer.MIN_VALUE};
            return wrong[random.nextInt(wrong.length)];
        }
        // The newest ones more often, so that trees get far from plain ones.
        return kind < 15 ? random.nextInt(there) : Math.max(0, there - 1 - random.nextInt(5));
    }

    private int place(int v) {
        int size = Math.max(0, model.size(v));
        int kind = random.nextInt(30);
        if (kind == 0) {
            int[] edges = {-1, size, size + 1, Integer.MAX_VALUE, Integer.MIN_VALUE, 0, size - 1};
            return edges[random.nextInt(edges.length)];
        }
        return random.nextInt(size + 1);
    }

    private void compared(String name, String arguments, long got, long want) {
        String call = name + "(" + arguments + ")";
        calls.append(call).append("; ");
        left--;
        if (want < 0 || name.equals("push") || name.equals("put") || name.equals("freeze")) {
            seen.merge(name + " " + want, 1, Integer::sum);
        }
        checks.due(call, got, want);
    }

    private void push(int w, int x) {
        boolean want = model.push(w, x);
        if (!want && model.opened(w) && model.size(w) < 80) {
            seen.merge("push too tall", 1, Integer::sum);
        }
        compared("push", w + ", " + x, vector.push(w, x) ? 1 : 0, want ? 1 : 0);
    }

    private void freeze(int w) {
        compared("freeze", "" + w, vector.freeze(w) ? 1 : 0, model.freeze(w) ? 1 : 0);
    }

    private void append(int v, int x) {
        compared("append", v + ", " + x, vector.append(v, x), model.append(v, x));
    }

    private void prepend(int v, int x) {
        compared("prepend", v + ", " + x, vector.prepend(v, x), model.prepend(v, x));
    }

    private void concat(int a, int b) {
        compared("concat", a + ", " + b, vector.concat(a, b), model.concat(a, b));
    }

    private void insertAt(int v, int i, int x) {
        compared("insertAt", v + ", " + i + ", " + x, vector.insertAt(v, i, x), model.insertAt(v, i, x));
    }

    private void removeAt(int v, int i) {
        compared("removeAt", v + ", " + i, vector.removeAt(v, i), model.removeAt(v, i));
    }

    private void edit(int kind) {
        int v = version();
        int i = place(v);
        int x = element();
        switch (kind) {
            case 0 -> append(v, x);
            case 1 -> prepend(v, x);
            case 2 -> compared("set", v + ", " + i + ", " + x, vector.set(v, i, x), model.set(v, i, x));
            case 3 -> concat(v, version());
            case 4 -> {
                int to = place(v);
                int from = random.nextInt(20) == 0 ? i : Math.min(i, to);
                to = random.nextInt(20) == 0 ? to : Math.max(i, to);
                compared("slice", v + ", " + from + ", " + to, vector.slice(v, from, to), model.slice(v, from, to));
            }
            case 5 -> insertAt(v, i, x);
            case 6 -> removeAt(v, i);
            case 7 -> compared("thaw", "" + v, vector.thaw(v), model.thaw(v));
            case 8 -> push(v, x);
            case 9 -> compared("put", v + ", " + i + ", " + x, vector.put(v, i, x) ? 1 : 0, model.put(v, i, x) ? 1 : 0);
            default -> freeze(v);
        }
    }

    private void ask(int kind) {
        int v = version();
        int i = place(v);
        switch (kind) {
            case 0 -> compared("versions", "", vector.versions(), model.versions());
            case 1 -> compared("size", "" + v, vector.size(v), model.size(v));
            case 2 -> compared("get", v + ", " + i, vector.get(v, i), model.get(v, i));
            case 3 -> compared("hash", "" + v, vector.hash(v), model.hash(v));
            case 4 -> {
                int b = version();
                compared("compare", v + ", " + b, vector.compare(v, b), model.compare(v, b));
            }
            case 5 -> compared("height", "" + v, vector.height(v), model.height(v));
            case 6 -> compared("nodes", "" + v, vector.nodes(v), model.nodes(v));
            case 7 -> {
                int level = random.nextInt(6);
                int k = random.nextInt(level < 2 ? 30 : level < 3 ? 12 : 5) - 1;
                compared("row", v + ", " + level + ", " + k, vector.row(v, level, k), model.row(v, level, k));
            }
            default -> compared("probes", v + ", " + i, vector.probes(v, i), model.probes(v, i));
        }
    }
}
