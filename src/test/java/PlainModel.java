import java.util.ArrayList;
import java.util.List;

/** The document's versions over plain trees, with the document's refusals in their order. */
final class PlainModel {
    private final List<PlainNode> roots = new ArrayList<>();
    private final List<Boolean> open = new ArrayList<>();

    PlainModel() {
        make(null, false);
    }

    private int make(PlainNode root, boolean opened) {
        roots.add(root);
        open.add(opened);
        return roots.size() - 1;
    }

    private boolean isVersion(int v) {
        return 0 <= v && v < roots.size();
    }

    private boolean frozen(int v) {
        return isVersion(v) && !open.get(v);
    }

    boolean opened(int v) {
        return isVersion(v) && open.get(v);
    }

    private boolean full() {
        return roots.size() == 40;
    }

    private int length(int v) {
        return PlainNode.elements(roots.get(v)).size();
    }

    private boolean place(int v, int i) {
        return 0 <= i && i < length(v);
    }

    private int kept(PlainNode root) {
        if (PlainNode.elements(root).size() > 80) {
            return -3;
        }
        return PlainNode.heightOf(root) > 4 ? -4 : make(root, false);
    }

    int append(int v, int x) {
        if (!frozen(v)) {
            return -1;
        }
        return full() ? -2 : kept(PlainNode.added(roots.get(v), x, true));
    }

    int prepend(int v, int x) {
        if (!frozen(v)) {
            return -1;
        }
        return full() ? -2 : kept(PlainNode.added(roots.get(v), x, false));
    }

    int set(int v, int i, int x) {
        if (!frozen(v) || !place(v, i)) {
            return -1;
        }
        return full() ? -2 : make(PlainNode.replaced(roots.get(v), i, x), false);
    }

    int concat(int a, int b) {
        if (!frozen(a) || !frozen(b)) {
            return -1;
        }
        return full() ? -2 : kept(PlainNode.joined(roots.get(a), roots.get(b)));
    }

    int slice(int v, int from, int to) {
        if (!frozen(v) || !(0 <= from && from <= to && to <= length(v))) {
            return -1;
        }
        return full() ? -2 : make(PlainNode.cut(roots.get(v), from, to), false);
    }

    int insertAt(int v, int i, int x) {
        if (!frozen(v) || !(0 <= i && i <= length(v))) {
            return -1;
        }
        if (full()) {
            return -2;
        }
        PlainNode before = PlainNode.added(PlainNode.cut(roots.get(v), 0, i), x, true);
        return kept(PlainNode.joined(before, PlainNode.cut(roots.get(v), i, length(v))));
    }

    int removeAt(int v, int i) {
        if (!frozen(v) || !place(v, i)) {
            return -1;
        }
        if (full()) {
            return -2;
        }
        PlainNode before = PlainNode.cut(roots.get(v), 0, i);
        return kept(PlainNode.joined(before, PlainNode.cut(roots.get(v), i + 1, length(v))));
    }

    int thaw(int v) {
        if (!frozen(v)) {
            return -1;
        }
        return full() ? -2 : make(roots.get(v), true);
    }

    boolean push(int w, int x) {
        if (!opened(w) || length(w) == 80) {
            return false;
        }
        PlainNode grown = PlainNode.added(roots.get(w), x, true);
        if (grown.level > 4) {
            return false;
        }
        roots.set(w, grown);
        return true;
    }

    boolean put(int w, int i, int x) {
        if (!opened(w) || !place(w, i)) {
            return false;
        }
        roots.set(w, PlainNode.replaced(roots.get(w), i, x));
        return true;
    }

    boolean freeze(int w) {
        return opened(w) && open.set(w, false);
    }

    int versions() {
        return roots.size();
    }

    int size(int v) {
        return isVersion(v) ? length(v) : -1;
    }

    long get(int v, int i) {
        return isVersion(v) && place(v, i) ? PlainNode.elements(roots.get(v)).get(i) : 4294967296L;
    }

    int hash(int v) {
        // List.hashCode is told by its documentation to be just what promise 16 asks for.
        return isVersion(v) ? PlainNode.elements(roots.get(v)).hashCode() : 0;
    }

    int compare(int a, int b) {
        if (!isVersion(a) || !isVersion(b)) {
            return 2;
        }
        int[] first = PlainNode.elements(roots.get(a)).stream().mapToInt(x -> x).toArray();
        int[] second = PlainNode.elements(roots.get(b)).stream().mapToInt(x -> x).toArray();
        return Integer.signum(java.util.Arrays.compare(first, second));
    }

    int height(int v) {
        return isVersion(v) ? PlainNode.heightOf(roots.get(v)) : -1;
    }

    int nodes(int v) {
        if (!isVersion(v)) {
            return -1;
        }
        int sum = 0;
        for (int level = 1; level <= height(v); level++) {
            sum += PlainNode.levelOf(roots.get(v), level).size();
        }
        return sum;
    }

    int row(int v, int level, int k) {
        if (!isVersion(v) || level < 1 || level > height(v)) {
            return -1;
        }
        List<PlainNode> nodes = PlainNode.levelOf(roots.get(v), level);
        return 0 <= k && k < nodes.size() ? nodes.get(k).slots.size() : -1;
    }

    int probes(int v, int i) {
        return isVersion(v) && place(v, i) ? PlainNode.probes(roots.get(v), i) : -1;
    }

    /** The slot counts of every level, from the root down. */
    String shape(int v) {
        StringBuilder text = new StringBuilder();
        for (int level = height(v); level >= 1; level--) {
            for (PlainNode node : PlainNode.levelOf(roots.get(v), level)) {
                text.append(node.slots.size()).append(' ');
            }
            text.append(level > 1 ? "| " : "");
        }
        return text.toString().trim();
    }
}
