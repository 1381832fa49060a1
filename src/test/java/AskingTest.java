/** Promises 13 to 21: the questions. */
public final class AskingTest {
    private static final int NONE = RelaxedRadixVector.NONE;
    private static final long OUT = RelaxedRadixVector.OUT;

    private final Checks checks = new Checks();

    public static void main(String[] args) {
        AskingTest test = new AskingTest();
        test.promise13Versions();
        test.promise14Size();
        test.promise15Get();
        test.promise16Hash();
        test.promise17Compare();
        test.promise18Height();
        test.promise19Nodes();
        test.promise20Row();
        test.promise21Probes();
        test.promise21ProbesOfALooseTree();
        test.questionsChangeNothing();
        test.checks.finish();
    }

    /** Version 1 has 0 .. 8; version 2, and version 3, which is open, have 3 .. 8 in leaves of 1, 4 and 1. */
    private static RelaxedRadixVector small() {
        RelaxedRadixVector x = Vectors.withPushed(9);
        x.slice(1, 3, 9);
        x.thaw(2);
        return x;
    }

    private void promise13Versions() {
        RelaxedRadixVector x = new RelaxedRadixVector();
        checks.due("versions()", x.versions(), 1);
        x.append(0, 1);
        checks.due("versions() with a frozen one more", x.versions(), 2);
        int open = x.thaw(0);
        checks.due("versions() with an open one more", x.versions(), 3);
        x.push(open, 1);
        x.put(open, 0, 2);
        x.freeze(open);
        x.append(9, 1);
        checks.due("versions() as before", x.versions(), 3);
        Vectors.fillUp(x);
        x.append(0, 1);
        checks.due("versions() at the most", x.versions(), 40);
    }

    private void promise14Size() {
        RelaxedRadixVector x = small();
        checks.due("size(4) without version 4", x.size(4), NONE);
        checks.due("size(0)", x.size(0), 0);
        checks.due("size(1)", x.size(1), 9);
        checks.due("size(3), open", x.size(3), 6);
        x.push(3, 1);
        checks.due("size(3), pushed", x.size(3), 7);
        Vectors.fillUp(x);
        checks.due("size(39)", x.size(39), 1);
        checks.due("size(40)", x.size(40), NONE);
    }

    private void promise15Get() {
        RelaxedRadixVector x = small();
        checks.due("get(0, 0)", x.get(0, 0), OUT);
        for (int i = 0; i < 9; i++) {
            checks.due("get(1, " + i + ")", x.get(1, i), i);
        }
        checks.due("get(3, 5), open", x.get(3, 5), 8);
        checks.due("get(3, 6), open", x.get(3, 6), OUT);
        x.put(3, 5, Integer.MIN_VALUE);
        checks.due("get of the least", x.get(3, 5), -2147483648L);
        x.put(3, 5, Integer.MAX_VALUE);
        checks.due("get of the greatest", x.get(3, 5), 2147483647L);
        x.put(3, 5, -1);
        checks.due("get of -1", x.get(3, 5), -1L);
    }

    private void promise16Hash() {
        RelaxedRadixVector x = small();
        checks.due("hash(0)", x.hash(0), 1);
        checks.due("hash of 0", x.hash(x.append(0, 0)), 31);
        checks.due("hash of 0 7", x.hash(x.append(4, 7)), 31 * 31 + 7);
        checks.due("hash of 7 0", x.hash(x.prepend(4, 7)), 31 * 38);
        checks.due("hash of -31", x.hash(x.append(0, -31)), 0);
        checks.due("hash of the greatest, wrapped", x.hash(x.append(0, Integer.MAX_VALUE)), -2147483618);
        checks.due("hash of 0 .. 8 by List.hashCode", x.hash(1),
            java.util.List.of(0, 1, 2, 3, 4, 5, 6, 7, 8).hashCode());
        checks.due("hash of an open one", x.hash(3), java.util.List.of(3, 4, 5, 6, 7, 8).hashCode());
    }

    private void promise17Compare() {
        RelaxedRadixVector x = small();
        checks.due("compare(0, 0)", x.compare(0, 0), 0);
        checks.due("compare(0, 1)", x.compare(0, 1), -1);
        checks.due("compare(1, 0)", x.compare(1, 0), 1);
        checks.due("compare(2, 3), alike, open", x.compare(2, 3), 0);
        checks.due("compare(1, 2), the longer lesser", x.compare(1, 2), -1);
        checks.due("compare(2, 1), the shorter greater", x.compare(2, 1), 1);
        x.push(3, -5);
        checks.due("compare(2, 3), the start of it", x.compare(2, 3), -1);
        checks.due("compare(3, 2), the start of it", x.compare(3, 2), 1);
        int least = x.append(0, Integer.MIN_VALUE);
        int greatest = x.append(0, Integer.MAX_VALUE);
        checks.due("compare of the least", x.compare(least, greatest), -1);
        checks.due("compare of the greatest", x.compare(greatest, least), 1);
        int last = x.set(1, 8, 7);
        checks.due("compare at the last place", x.compare(last, 1), -1);
        int tight = x.thaw(0);
        for (int i = 3; i < 9; i++) {
            x.push(tight, i);
        }
        checks.due("shapes that differ", Vectors.shape(x, tight).equals(Vectors.shape(x, 2)), false);
        checks.due("compare over shapes that differ", x.compare(tight, 2), 0);
    }

    private void promise18Height() {
        RelaxedRadixVector x = Vectors.withPushed(80);
        checks.due("height(0)", x.height(0), 0);
        checks.due("height of 80 elements", x.height(1), 4);
        int[][] heights = {{1, 1}, {4, 1}, {5, 2}, {16, 2}, {17, 3}, {64, 3}, {65, 4}};
        for (int[] pair : heights) {
            checks.due("height of " + pair[0], x.height(x.slice(1, 0, pair[0])), pair[1]);
        }
        checks.due("height of an open one", x.height(x.thaw(1)), 4);
        checks.due("height of two elements", x.height(x.slice(1, 63, 65)), 4);
    }

    private void promise19Nodes() {
        RelaxedRadixVector x = Vectors.withPushed(80);
        checks.due("nodes(0)", x.nodes(0), 0);
        checks.due("nodes of 80 elements", x.nodes(1), 1 + 2 + 5 + 20);
        int[][] nodes = {{1, 1}, {4, 1}, {5, 3}, {16, 5}, {17, 8}, {64, 21}, {65, 25}};
        for (int[] pair : nodes) {
            checks.due("nodes of " + pair[0], x.nodes(x.slice(1, 0, pair[0])), pair[1]);
        }
        checks.due("nodes of an open one", x.nodes(x.thaw(1)), 28);
        checks.due("nodes of two elements", x.nodes(x.slice(1, 63, 65)), 7);
    }

    private void promise20Row() {
        RelaxedRadixVector x = Vectors.withPushed(18);
        int[][] rows = {{4, 4, 4, 4, 2}, {4, 1}, {2}};
        int open = x.thaw(1);
        for (int level = 1; level <= 3; level++) {
            for (int k = 0; k < rows[level - 1].length; k++) {
                checks.due("row(1, " + level + ", " + k + ")", x.row(1, level, k), rows[level - 1][k]);
                checks.due("row(open, " + level + ", " + k + ")", x.row(open, level, k), rows[level - 1][k]);
            }
            checks.due("row behind level " + level, x.row(1, level, rows[level - 1].length), NONE);
            for (int k : new int[] {-1, 80, Integer.MAX_VALUE, Integer.MIN_VALUE}) {
                checks.due("row(1, " + level + ", " + k + ")", x.row(1, level, k), NONE);
            }
        }
        for (int level : new int[] {-1, 0, 4, 5, 6, 7, 100, Integer.MAX_VALUE, Integer.MIN_VALUE}) {
            checks.due("row(1, " + level + ", 0)", x.row(1, level, 0), NONE);
        }
        checks.due("row(0, 0, 0)", x.row(0, 0, 0), NONE);
        checks.due("row(0, 1, 0)", x.row(0, 1, 0), NONE);
        int lower = x.slice(1, 0, 16);
        checks.due("row above a lowered root", x.row(lower, 3, 0), NONE);
        checks.due("row of a lowered root", x.row(lower, 2, 0), 4);
    }

    private void promise21Probes() {
        RelaxedRadixVector x = small();
        checks.due("probes(0, 0)", x.probes(0, 0), NONE);
        for (int i = 0; i < 9; i++) {
            checks.due("probes(1, " + i + "), plain", x.probes(1, i), 0);
        }
        // Leaves 1, 4, 1: the child's number less the place divided by 4.
        int[] due = {0, 1, 1, 1, 0, 1};
        for (int i = 0; i < due.length; i++) {
            checks.due("probes(2, " + i + ")", x.probes(2, i), due[i]);
            checks.due("probes(3, " + i + "), open", x.probes(3, i), due[i]);
        }
        int leaf = x.slice(1, 0, 4);
        checks.due("probes in a leaf alone", x.probes(leaf, 3), 0);
        checks.due("probes behind a leaf alone", x.probes(leaf, 4), NONE);
    }

    private void promise21ProbesOfALooseTree() {
        RelaxedRadixVector x = Vectors.withPushed(80);
        int v = x.slice(1, 14, 35);
        checks.due("shape of slice(1, 14, 35)", Vectors.shape(x, v), "3|141|244443");
        // Place 1: nothing but first children. Place 2: 1 - 2 / 16 above, 0 below.
        // Place 17: 1 - 17 / 16 above, and 15 elements before it below: 3 - 15 / 4.
        // Place 18: 2 - 18 / 16 above, 0 below. Place 15: 1 - 15 / 16, and 3 - 13 / 4.
        int[][] due = {{1, 0}, {2, 1}, {15, 1}, {17, 0}, {18, 1}, {20, 1}};
        for (int[] pair : due) {
            checks.due("probes at " + pair[0], x.probes(v, pair[0]), pair[1]);
        }
        int w = x.slice(1, 63, 65);
        checks.due("probes(w, 0)", x.probes(w, 0), 0);
        checks.due("probes(w, 1), one miss at the root alone", x.probes(w, 1), 1);
        int d = x.concat(x.slice(1, 15, 17), x.slice(1, 15, 17));
        checks.due("shape of a loose concat", Vectors.shape(x, d), "2|31|1111");
        // Place 2: 0 above, 2 - 2 / 4 below. Place 3: 1 - 3 / 16 above, 0 below.
        int[] loose = {0, 1, 2, 1};
        for (int i = 0; i < loose.length; i++) {
            checks.due("probes(d, " + i + ")", x.probes(d, i), loose[i]);
        }
    }

    private void questionsChangeNothing() {
        RelaxedRadixVector x = small();
        for (int turn = 0; turn < 2; turn++) {
            checks.due("hash(3)", x.hash(3), java.util.List.of(3, 4, 5, 6, 7, 8).hashCode());
            checks.due("shape", Vectors.shape(x, 3), "3|141");
            checks.due("elements", Vectors.elements(x, 3), "3 4 5 6 7 8");
            checks.due("probes(3, 2)", x.probes(3, 2), 1);
            checks.due("compare(3, 1)", x.compare(3, 1), 1);
            checks.due("nodes(3)", x.nodes(3), 4);
            checks.due("versions()", x.versions(), 4);
        }
    }
}
