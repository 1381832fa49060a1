import java.util.ArrayList;

/**
 * Sequences of ints in numbered versions that are never lost. Every version is a tree of small
 * nodes whose exact shape can be seen.
 */
public final class RelaxedRadixVector {
    /** No such version, no such place, or no such node. */
    public static final int NONE = -1;
    /** There are 40 versions. */
    public static final int FULL = -2;
    /** The result would have more than 80 elements. */
    public static final int LONG = -3;
    /** The tree of the result would have more than 4 levels. */
    public static final int TALL = -4;
    /** Answered by get for no element: a number that no int is. */
    public static final long OUT = 4294967296L;

    private static final int MOST_VERSIONS = 40;
    private static final int MOST_ELEMENTS = 80;
    private static final int MOST_LEVELS = 4;
    private static final int MOST_SLOTS = 4;
    // Only the result is measured against MOST_LEVELS: on the way to it, adding an element and
    // joining may each have set one more root on top.
    private static final int LEVELS_ON_THE_WAY = MOST_LEVELS + 2;

    private final ArrayList<Tree> trees;
    private final boolean[] open;

    // Every result is built in these first, so that a refused call leaves nothing behind and no
    // call but one that makes a version makes objects.
    private final Tree left;
    private final Tree right;
    private final Tree result;

    public RelaxedRadixVector() {
        trees = new ArrayList<>();
        trees.add(new Tree());
        open = new boolean[MOST_VERSIONS];
        left = new Tree();
        right = new Tree();
        result = new Tree();
    }

    public int append(int v, int x) {
        int refusal = refusalToGrow(v, 1);
        if (refusal != 0) {
            return refusal;
        }
        result.become(trees.get(v));
        result.addLast(x);
        return keepResult();
    }

    public int prepend(int v, int x) {
        int refusal = refusalToGrow(v, 1);
        if (refusal != 0) {
            return refusal;
        }
        result.become(trees.get(v));
        result.addFirst(x);
        return keepResult();
    }

    public int set(int v, int i, int x) {
        if (!isFrozen(v) || !isPlace(v, i)) {
            return NONE;
        }
        if (isFull()) {
            return FULL;
        }
        result.become(trees.get(v));
        result.replace(i, x);
        return keepResult();
    }

    public int concat(int a, int b) {
        if (!isFrozen(b)) {
            return NONE;
        }
        int refusal = refusalToGrow(a, trees.get(b).length());
        if (refusal != 0) {
            return refusal;
        }
        result.join(trees.get(a), trees.get(b));
        return keepResult();
    }

    public int slice(int v, int from, int to) {
        if (!isFrozen(v) || from < 0 || from > to || to > trees.get(v).length()) {
            return NONE;
        }
        if (isFull()) {
            return FULL;
        }
        result.cut(trees.get(v), from, to);
        return keepResult();
    }

    public int insertAt(int v, int i, int x) {
        if (!isFrozen(v) || i < 0 || i > trees.get(v).length()) {
            return NONE;
        }
        int refusal = refusalToGrow(v, 1);
        if (refusal != 0) {
            return refusal;
        }
        Tree tree = trees.get(v);
        left.cut(tree, 0, i);
        left.addLast(x);
        right.cut(tree, i, tree.length());
        result.join(left, right);
        return keepResult();
    }

    public int removeAt(int v, int i) {
        if (!isFrozen(v) || !isPlace(v, i)) {
            return NONE;
        }
        if (isFull()) {
            return FULL;
        }
        Tree tree = trees.get(v);
        left.cut(tree, 0, i);
        right.cut(tree, i + 1, tree.length());
        result.join(left, right);
        return keepResult();
    }

    public int thaw(int v) {
        if (!isFrozen(v)) {
            return NONE;
        }
        if (isFull()) {
            return FULL;
        }
        result.become(trees.get(v));
        int made = keepResult();
        if (made >= 0) {
            open[made] = true;
        }
        return made;
    }

    public boolean push(int w, int x) {
        if (!isOpen(w) || trees.get(w).length() >= MOST_ELEMENTS) {
            return false;
        }
        result.become(trees.get(w));
        result.addLast(x);
        if (result.height > MOST_LEVELS) {
            return false;
        }
        trees.get(w).become(result);
        return true;
    }

    public boolean put(int w, int i, int x) {
        if (!isOpen(w) || !isPlace(w, i)) {
            return false;
        }
        trees.get(w).replace(i, x);
        return true;
    }

    public boolean freeze(int w) {
        if (!isOpen(w)) {
            return false;
        }
        open[w] = false;
        return true;
    }

    public int versions() {
        return trees.size();
    }

    public int size(int v) {
        return isVersion(v) ? trees.get(v).length() : NONE;
    }

    public long get(int v, int i) {
        return isVersion(v) && isPlace(v, i) ? trees.get(v).element(i) : OUT;
    }

    public int hash(int v) {
        if (!isVersion(v)) {
            return 0;
        }
        Tree tree = trees.get(v);
        int number = 1;
        for (int i = 0; i < tree.length(); i++) {
            number = 31 * number + tree.element(i);
        }
        return number;
    }

    public int compare(int a, int b) {
        if (!isVersion(a) || !isVersion(b)) {
            return 2;
        }
        Tree first = trees.get(a);
        Tree second = trees.get(b);
        int both = Math.min(first.length(), second.length());
        for (int i = 0; i < both; i++) {
            if (first.element(i) != second.element(i)) {
                return first.element(i) < second.element(i) ? -1 : 1;
            }
        }
        if (first.length() == second.length()) {
            return 0;
        }
        return first.length() < second.length() ? -1 : 1;
    }

    public int height(int v) {
        return isVersion(v) ? trees.get(v).height : NONE;
    }

    public int nodes(int v) {
        return isVersion(v) ? trees.get(v).countNodes() : NONE;
    }

    public int row(int v, int level, int k) {
        return isVersion(v) ? trees.get(v).slotsOf(level, k) : NONE;
    }

    public int probes(int v, int i) {
        return isVersion(v) && isPlace(v, i) ? trees.get(v).missesOnTheWayTo(i) : NONE;
    }

    private boolean isVersion(int v) {
        return v >= 0 && v < trees.size() && v < MOST_VERSIONS;
    }

    private boolean isFrozen(int v) {
        return isVersion(v) && !open[v];
    }

    private boolean isOpen(int v) {
        return isVersion(v) && open[v];
    }

    private boolean isPlace(int v, int i) {
        return isVersion(v) && i >= 0 && i < trees.get(v).length();
    }

    private boolean isFull() {
        return trees.size() >= MOST_VERSIONS;
    }

    /** 0 when a version of v's elements and so many more may be tried. */
    private int refusalToGrow(int v, int more) {
        if (!isFrozen(v)) {
            return NONE;
        }
        if (isFull()) {
            return FULL;
        }
        return trees.get(v).length() + more > MOST_ELEMENTS ? LONG : 0;
    }

    private int keepResult() {
        if (result.height > MOST_LEVELS) {
            return TALL;
        }
        Tree made = new Tree();
        made.become(result);
        trees.add(made);
        return trees.size() - 1;
    }

    /**
     * A tree, told by its levels alone. A level's nodes hold those of the level below in their
     * order, so the slot counts of each level say which node holds which: no links are needed, and
     * what the document does to nodes along one edge or seam is done to the ends or to a stretch
     * of each row.
     */
    private static final class Tree {
        // Row 0 has the elements, row k the slot counts of the nodes of level k; the rows above
        // the height are empty.
        private final Row[] rows;
        private int height;

        Tree() {
            rows = new Row[LEVELS_ON_THE_WAY + 1];
            for (int level = 0; level < rows.length; level++) {
                rows[level] = new Row();
            }
            height = 0;
        }

        int length() {
            return rows[0].count;
        }

        int element(int i) {
            return rows[0].cell(i);
        }

        void replace(int i, int x) {
            rows[0].write(i, x);
        }

        int countNodes() {
            int sum = 0;
            for (int level = 1; level <= height; level++) {
                sum += rows[level].count;
            }
            return sum;
        }

        int slotsOf(int level, int k) {
            if (level < 1 || level > height || k < 0 || k >= rows[level].count) {
                return NONE;
            }
            return rows[level].cell(k);
        }

        void become(Tree other) {
            for (int level = 0; level < rows.length; level++) {
                rows[level].clear();
                rows[level].addRange(other.rows[level], 0, other.rows[level].count);
            }
            height = other.height;
        }

        void addLast(int x) {
            rows[0].addLast(x);
            for (int level = 1; level <= height; level++) {
                int end = rows[level].count - 1;
                if (rows[level].cell(end) < MOST_SLOTS) {
                    rows[level].write(end, rows[level].cell(end) + 1);
                    return;
                }
                // Part of the chain that a node further up, or a new root, gets.
                rows[level].addLast(1);
            }
            setRootOnTop();
        }

        void addFirst(int x) {
            rows[0].addFirst(x);
            for (int level = 1; level <= height; level++) {
                if (rows[level].cell(0) < MOST_SLOTS) {
                    rows[level].write(0, rows[level].cell(0) + 1);
                    return;
                }
                rows[level].addFirst(1);
            }
            setRootOnTop();
        }

        /** Also the first leaf of an empty tree: a root over the one element. */
        private void setRootOnTop() {
            if (height < LEVELS_ON_THE_WAY) {
                rows[height + 1].addLast(rows[height].count);
                height++;
            }
        }

        /** Becomes the other tree, cut to the places from .. to - 1. */
        void cut(Tree whole, int from, int to) {
            rows[0].clear();
            rows[0].addRange(whole.rows[0], from, to);
            // What is left of a level is one stretch of its nodes, and these are the slots that
            // are left to the level above.
            int first = from;
            int end = to;
            for (int level = 1; level < rows.length; level++) {
                Row nodes = whole.rows[level];
                rows[level].clear();
                rows[level].addClipped(nodes, first, end);
                first = nodes.holderOf(first);
                end = first + rows[level].count;
            }
            height = rows[0].count == 0 ? 0 : whole.height;
            while (height > 1 && rows[height].cell(0) == 1) {
                rows[height].clear();
                height--;
            }
        }

        /** Becomes p and q joined; neither of them may be this tree. */
        void join(Tree p, Tree q) {
            if (p.length() == 0) {
                become(q);
            } else if (q.length() == 0) {
                become(p);
            } else {
                meetRoots(p, q);
            }
        }

        /**
         * MEET asks for its lower levels first, so it is done from the leaves up: each turn has
         * what the level below gave, packs the row that it lies in, and gives one or two nodes.
         */
        private void meetRoots(Tree p, Tree q) {
            for (int level = 0; level < rows.length; level++) {
                rows[level].clear();
            }
            rows[0].addRange(p.rows[0], 0, p.rows[0].count);
            rows[0].addRange(q.rows[0], 0, q.rows[0].count);
            rows[1].addRange(p.rows[1], 0, p.rows[1].count);
            rows[1].addRange(q.rows[1], 0, q.rows[1].count);
            int metAt = p.rows[1].count - 1;
            int met = 2;
            height = Math.max(p.height, q.height);
            for (int level = 2; level <= height; level++) {
                Row before = p.rows[level];
                Row behind = q.rows[level];
                int start = metAt - allButOne(before.cell(before.count - 1));
                int end = metAt + met + allButOne(behind.cell(0));
                int packed = rows[level - 1].pack(start, end);
                metAt = allButOne(before.count);
                met = packed > MOST_SLOTS ? 2 : 1;
                rows[level].addRange(before, 0, metAt);
                rows[level].addLast(Math.min(packed, MOST_SLOTS));
                if (met == 2) {
                    rows[level].addLast(packed - MOST_SLOTS);
                }
                rows[level].addRange(behind, 1, behind.count);
            }
            if (met == 2) {
                setRootOnTop();
            }
        }

        /** None of none: a tree that ends below a level has no nodes there to bring along. */
        private static int allButOne(int number) {
            return Math.max(number - 1, 0);
        }

        int missesOnTheWayTo(int place) {
            int sum = 0;
            int child = place;
            int mostUnderChild = 1;
            for (int level = 1; level <= height; level++) {
                int node = rows[level].holderOf(child);
                int childrenBefore = child - rows[level].sumBefore(node);
                int elementsBefore = place - firstPlaceUnder(level, node);
                // The leaf counts with the others: its slots are the elements, so it adds 0.
                sum += childrenBefore - elementsBefore / mostUnderChild;
                child = node;
                mostUnderChild *= MOST_SLOTS;
            }
            return sum;
        }

        private int firstPlaceUnder(int level, int node) {
            int first = node;
            for (int below = level; below >= 1; below--) {
                first = rows[below].sumBefore(first);
            }
            return first;
        }
    }

    /** The numbers of one level, from left to right: at most one for each element. */
    private static final class Row {
        private final int[] cells;
        private int count;

        Row() {
            cells = new int[MOST_ELEMENTS];
            count = 0;
        }

        int cell(int k) {
            return k >= 0 && k < count ? cells[k] : 0;
        }

        void write(int k, int number) {
            if (k >= 0 && k < count) {
                cells[k] = number;
            }
        }

        void clear() {
            count = 0;
        }

        void addLast(int number) {
            if (count < cells.length) {
                cells[count] = number;
                count++;
            }
        }

        void addFirst(int number) {
            if (count < cells.length) {
                System.arraycopy(cells, 0, cells, 1, count);
                cells[0] = number;
                count++;
            }
        }

        void addRange(Row other, int from, int to) {
            for (int k = Math.max(from, 0); k < to && k < other.count; k++) {
                addLast(other.cells[k]);
            }
        }

        /** Adds the slot counts of the other row that are left when its slots first .. end - 1 stay. */
        void addClipped(Row other, int first, int end) {
            int start = 0;
            for (int k = 0; k < other.count; k++) {
                int next = start + other.cells[k];
                int left = Math.min(next, end) - Math.max(start, first);
                if (left > 0) {
                    addLast(left);
                }
                start = next;
            }
        }

        private void remove(int k) {
            if (k >= 0 && k < count) {
                System.arraycopy(cells, k + 1, cells, k, count - k - 1);
                count--;
            }
        }

        int sumBefore(int k) {
            int sum = 0;
            for (int i = 0; i < k && i < count; i++) {
                sum += cells[i];
            }
            return sum;
        }

        /** Which node of this row of slot counts has the slot with this number in the row. */
        int holderOf(int slot) {
            int next = 0;
            for (int k = 0; k < count; k++) {
                next += cells[k];
                if (slot < next) {
                    return k;
                }
            }
            return count;
        }

        /** Packs the nodes start .. end - 1 and answers how many they are then. */
        int pack(int start, int end) {
            int slots = sumBefore(end) - sumBefore(start);
            int nodes = end - start;
            while (nodes > (slots + MOST_SLOTS - 1) / MOST_SLOTS + 1) {
                saveOneNode(start, start + nodes);
                nodes--;
            }
            return nodes;
        }

        private void saveOneNode(int start, int end) {
            // Both searches end before the stretch does, by the condition that pack has tested.
            int i = start;
            while (i < end - 2 && cell(i) >= MOST_SLOTS) {
                i++;
            }
            int j = i + 1;
            int slots = cell(i) + cell(j);
            while (j < end - 1 && slots > MOST_SLOTS * (j - i)) {
                j++;
                slots += cell(j);
            }
            remove(j);
            for (int k = i; k < j; k++) {
                int taken = k < j - 1 ? MOST_SLOTS : slots;
                write(k, taken);
                slots -= taken;
            }
        }
    }
}
