import java.util.ArrayList;
import java.util.List;

/**
 * The document's tree of linked nodes, written as the document tells it and without regard to cost:
 * what the program, which holds its trees in another way, is compared with.
 */
final class PlainNode {
    final int level;
    /** Elements (Integer) in a leaf, children (PlainNode) above. */
    final List<Object> slots;

    PlainNode(int level, List<?> slots) {
        this.level = level;
        this.slots = new ArrayList<>(slots);
    }

    PlainNode child(int k) {
        return (PlainNode) slots.get(k);
    }

    PlainNode lastChild() {
        return child(slots.size() - 1);
    }

    void collectElements(List<Integer> into) {
        for (Object slot : slots) {
            if (slot instanceof PlainNode node) {
                node.collectElements(into);
            } else {
                into.add((Integer) slot);
            }
        }
    }

    void collectLevel(int wanted, List<PlainNode> into) {
        if (level == wanted) {
            into.add(this);
            return;
        }
        for (Object slot : slots) {
            if (slot instanceof PlainNode node) {
                node.collectLevel(wanted, into);
            }
        }
    }

    static List<Integer> elements(PlainNode root) {
        List<Integer> all = new ArrayList<>();
        if (root != null) {
            root.collectElements(all);
        }
        return all;
    }

    static int heightOf(PlainNode root) {
        return root == null ? 0 : root.level;
    }

    static List<PlainNode> levelOf(PlainNode root, int level) {
        List<PlainNode> found = new ArrayList<>();
        if (root != null) {
            root.collectLevel(level, found);
        }
        return found;
    }

    private static PlainNode chain(int level, int x) {
        return new PlainNode(level, level == 1 ? List.of(x) : List.of(chain(level - 1, x)));
    }

    /** The tree with x added at its end, or at its start. */
    static PlainNode added(PlainNode root, int x, boolean atEnd) {
        if (root == null) {
            return chain(1, x);
        }
        PlainNode inside = addedBelow(root, x, atEnd);
        if (inside != null) {
            return inside;
        }
        PlainNode more = chain(root.level, x);
        return new PlainNode(root.level + 1, atEnd ? List.of(root, more) : List.of(more, root));
    }

    /** Null when every node along that edge has 4 slots. */
    private static PlainNode addedBelow(PlainNode node, int x, boolean atEnd) {
        int edge = atEnd ? node.slots.size() - 1 : 0;
        List<Object> slots = new ArrayList<>(node.slots);
        if (node.level > 1) {
            PlainNode child = addedBelow(node.child(edge), x, atEnd);
            if (child != null) {
                slots.set(edge, child);
                return new PlainNode(node.level, slots);
            }
        }
        if (slots.size() == 4) {
            return null;
        }
        Object more = node.level == 1 ? (Object) x : chain(node.level - 1, x);
        slots.add(atEnd ? slots.size() : 0, more);
        return new PlainNode(node.level, slots);
    }

    static PlainNode replaced(PlainNode node, int i, int x) {
        List<Object> slots = new ArrayList<>(node.slots);
        if (node.level == 1) {
            slots.set(i, x);
            return new PlainNode(1, slots);
        }
        int before = 0;
        for (int k = 0; k < slots.size(); k++) {
            int under = elements(node.child(k)).size();
            if (i < before + under) {
                slots.set(k, replaced(node.child(k), i - before, x));
                break;
            }
            before += under;
        }
        return new PlainNode(node.level, slots);
    }

    static PlainNode cut(PlainNode root, int from, int to) {
        if (root == null) {
            return null;
        }
        PlainNode left = kept(root, from, to, new int[1]);
        while (left != null && left.level > 1 && left.slots.size() == 1) {
            left = left.child(0);
        }
        return left;
    }

    private static PlainNode kept(PlainNode node, int from, int to, int[] place) {
        List<Object> slots = new ArrayList<>();
        for (Object slot : node.slots) {
            if (slot instanceof PlainNode child) {
                PlainNode left = kept(child, from, to, place);
                if (left != null) {
                    slots.add(left);
                }
            } else {
                if (from <= place[0] && place[0] < to) {
                    slots.add(slot);
                }
                place[0]++;
            }
        }
        return slots.isEmpty() ? null : new PlainNode(node.level, slots);
    }

    static PlainNode joined(PlainNode p, PlainNode q) {
        if (p == null || q == null) {
            return p == null ? q : p;
        }
        List<PlainNode> met = meet(p, q);
        return met.size() == 1 ? met.get(0) : new PlainNode(met.get(0).level + 1, met);
    }

    private static List<PlainNode> meet(PlainNode a, PlainNode b) {
        int k = Math.max(a.level, b.level);
        if (k == 1) {
            return List.of(a, b);
        }
        List<PlainNode> row = new ArrayList<>();
        if (a.level == k) {
            for (int c = 0; c < a.slots.size() - 1; c++) {
                row.add(a.child(c));
            }
        }
        row.addAll(meet(a.level == k ? a.lastChild() : a, b.level == k ? b.child(0) : b));
        if (b.level == k) {
            for (int c = 1; c < b.slots.size(); c++) {
                row.add(b.child(c));
            }
        }
        pack(row);
        List<PlainNode> given = new ArrayList<>();
        given.add(new PlainNode(k, row.subList(0, Math.min(4, row.size()))));
        if (row.size() > 4) {
            given.add(new PlainNode(k, row.subList(4, row.size())));
        }
        return given;
    }

    private static int slotsOf(List<PlainNode> row) {
        int sum = 0;
        for (PlainNode node : row) {
            sum += node.slots.size();
        }
        return sum;
    }

    private static void pack(List<PlainNode> row) {
        while (row.size() > (slotsOf(row) + 3) / 4 + 1) {
            int i = 0;
            while (row.get(i).slots.size() == 4) {
                i++;
            }
            int j = i + 1;
            while (slotsOf(row.subList(i, j + 1)) > 4 * (j - i)) {
                j++;
            }
            List<PlainNode> stretch = row.subList(i, j + 1);
            int level = stretch.get(0).level;
            List<Object> slots = new ArrayList<>();
            for (PlainNode node : stretch) {
                slots.addAll(node.slots);
            }
            List<PlainNode> fewer = new ArrayList<>();
            for (int n = 0; n < j - i; n++) {
                int end = n == j - i - 1 ? slots.size() : 4 * n + 4;
                fewer.add(new PlainNode(level, slots.subList(4 * n, end)));
            }
            stretch.clear();
            row.addAll(i, fewer);
        }
    }

    static int probes(PlainNode root, int place) {
        int sum = 0;
        int r = place;
        PlainNode node = root;
        while (node.level > 1) {
            int most = 1;
            for (int k = 1; k < node.level; k++) {
                most *= 4;
            }
            int c = 0;
            int before = 0;
            while (before + elements(node.child(c)).size() <= r) {
                before += elements(node.child(c)).size();
                c++;
            }
            sum += c - r / most;
            r -= before;
            node = node.child(c);
        }
        return sum;
    }
}
