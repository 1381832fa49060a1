import java.util.ArrayList;
import java.util.List;

/** The edges that promises 13 to 21 name: one test for each sentence, or part of one, that names one. */
public final class EdgesOfAskingTest {
    private static final int NONE = RelaxedRadixVector.NONE;
    private static final long OUT = RelaxedRadixVector.OUT;
    private static final int LEAST = Integer.MIN_VALUE;
    private static final int GREATEST = Integer.MAX_VALUE;

    /** Of Vectors.mixed: 6 is the next number. */
    private static final int[] NO_VERSION = {-1, 6, 39, 40, 41, LEAST, GREATEST};
    /** Of its versions 2, 3 and 4, which have 9 elements. */
    private static final int[] NO_PLACE = {-1, 9, 10, 79, 80, LEAST, GREATEST};

    private final Checks checks = new Checks();

    public static void main(String[] args) {
        EdgesOfAskingTest test = new EdgesOfAskingTest();
        test.promise13FromOneTo40();
        test.promise13FrozenAndOpenOnes();
        test.promise14NoVersion();
        test.promise14From0To80();
        test.promise14OfTheLastVersion();
        test.promise15NoVersion();
        test.promise15NoPlace();
        test.promise15FirstAndLastPlace();
        test.promise15LeastAndGreatestElement();
        test.promise16OneOfNone();
        test.promise16Wraps();
        test.promise16OfTheLongest();
        test.promise16NoVersion();
        test.promise17TheLesserElement();
        test.promise17NoElementThere();
        test.promise17TheFirstPlaceDecides();
        test.promise17Alike();
        test.promise17NoVersion();
        test.promise18ZeroOfTheEmptyOne();
        test.promise18WhereItGrows();
        test.promise18NoVersion();
        test.promise19ZeroOfTheEmptyOne();
        test.promise19WhereItGrows();
        test.promise19NoVersion();
        test.promise20NoVersion();
        test.promise20NoLevel();
        test.promise20NoNode();
        test.promise20FirstAndLastNode();
        test.promise21NoVersion();
        test.promise21NoPlace();
        test.promise21NothingOffInFullTrees();
        test.promise21TheDivisionRoundsDown();
        test.promise21LeavesDoNotCount();
        test.promise21AllLevelsCount();
        test.questionsChangeNothing();
        test.checks.finish();
    }

    /** "How many versions there are": one at least, 40 at the most. */
    private void promise13FromOneTo40() {
        RelaxedRadixVector x = new RelaxedRadixVector();
        for (int count = 1; count <= 40; count++) {
            checks.due("versions() with " + count, x.versions(), count);
            x.append(0, 1);
        }
        checks.due("versions() after one that is refused", x.versions(), 40);
    }

    /** "frozen and open ones" */
    private void promise13FrozenAndOpenOnes() {
        RelaxedRadixVector x = new RelaxedRadixVector();
        x.thaw(0);
        checks.due("versions() with an open one", x.versions(), 2);
        x.push(1, 5);
        x.put(1, 0, 6);
        checks.due("versions() after push and put", x.versions(), 2);
        x.freeze(1);
        checks.due("versions() after freeze", x.versions(), 2);
        x.append(1, 5);
        checks.due("versions() after append", x.versions(), 3);
    }

    /** "NONE when v is no version" */
    private void promise14NoVersion() {
        for (int v : NO_VERSION) {
            checks.due("size(" + v + ")", Vectors.mixed().size(v), NONE);
        }
    }

    /** "The number of elements of the version v, frozen or open" */
    private void promise14From0To80() {
        RelaxedRadixVector x = new RelaxedRadixVector();
        x.thaw(0);
        for (int count = 0; count <= 80; count++) {
            checks.due("size(1) after " + count, x.size(1), count);
            x.push(1, 5);
        }
        checks.due("size(1) after a push too many", x.size(1), 80);
        x.freeze(1);
        checks.due("size(1), frozen", x.size(1), 80);
        checks.due("size(0)", x.size(0), 0);
    }

    /** Version 39 is the last that there may be. */
    private void promise14OfTheLastVersion() {
        RelaxedRadixVector x = Vectors.mixedFull();
        checks.due("size(39)", x.size(39), 1);
        checks.due("size(40)", x.size(40), NONE);
        checks.due("get(39, 0)", x.get(39, 0), 1);
        checks.due("get(40, 0)", x.get(40, 0), OUT);
        checks.due("hash(39)", x.hash(39), 32);
        checks.due("hash(40)", x.hash(40), 0);
        checks.due("compare(39, 39)", x.compare(39, 39), 0);
        checks.due("compare(39, 40)", x.compare(39, 40), 2);
        checks.due("height(39)", x.height(39), 1);
        checks.due("height(40)", x.height(40), NONE);
        checks.due("nodes(39)", x.nodes(39), 1);
        checks.due("nodes(40)", x.nodes(40), NONE);
        checks.due("row(39, 1, 0)", x.row(39, 1, 0), 1);
        checks.due("row(40, 1, 0)", x.row(40, 1, 0), NONE);
        checks.due("probes(39, 0)", x.probes(39, 0), 0);
        checks.due("probes(40, 0)", x.probes(40, 0), NONE);
    }

    /** "OUT when v is no version" */
    private void promise15NoVersion() {
        for (int v : NO_VERSION) {
            checks.due("get(" + v + ", 0)", Vectors.mixed().get(v, 0), OUT);
        }
    }

    /** "or i is not 0 .. its size - 1" */
    private void promise15NoPlace() {
        RelaxedRadixVector x = Vectors.mixed();
        for (int i : NO_PLACE) {
            checks.due("get(2, " + i + ")", x.get(2, i), OUT);
            checks.due("get(4, " + i + "), open", x.get(4, i), OUT);
            checks.due("get(0, " + i + ")", x.get(0, i), OUT);
        }
        checks.due("get(0, 0)", x.get(0, 0), OUT);
        checks.due("get(5, 0), open", x.get(5, 0), OUT);
        checks.due("get(1, 80)", x.get(1, 80), OUT);
        checks.due("get(1, -1)", x.get(1, -1), OUT);
    }

    /** "The element at place i of the version v, frozen or open" */
    private void promise15FirstAndLastPlace() {
        RelaxedRadixVector x = Vectors.mixed();
        checks.due("get(1, 0)", x.get(1, 0), 0);
        checks.due("get(1, 79)", x.get(1, 79), 79);
        checks.due("get(3, 0)", x.get(3, 0), 3);
        checks.due("get(3, 8)", x.get(3, 8), 11);
        checks.due("get(4, 8), open", x.get(4, 8), 8);
        x.push(4, 90);
        checks.due("get(4, 9), pushed", x.get(4, 9), 90);
        checks.due("get(4, 10), pushed", x.get(4, 10), OUT);
    }

    /** OUT is "a number that no int is": an element is answered as the int that it is. */
    private void promise15LeastAndGreatestElement() {
        RelaxedRadixVector x = new RelaxedRadixVector();
        int[] elements = {LEAST, GREATEST, -1, 0, -2, -3, -4, 65536};
        for (int v = 0; v < elements.length; v++) {
            x.append(v, elements[v]);
        }
        for (int i = 0; i < elements.length; i++) {
            checks.due("get(8, " + i + ")", x.get(8, i), elements[i]);
        }
        checks.due("get(8, 8)", x.get(8, 8), 4294967296L);
    }

    /** "begin with 1 (so it is 1 of none)" */
    private void promise16OneOfNone() {
        RelaxedRadixVector x = Vectors.mixed();
        checks.due("hash(0)", x.hash(0), 1);
        checks.due("hash(5), open", x.hash(5), 1);
        checks.due("hash of nothing cut out", x.hash(x.slice(1, 40, 40)), 1);
        checks.due("hash of 0", x.hash(x.append(0, 0)), 31);
        checks.due("hash of -30", x.hash(x.append(0, -30)), 1);
        checks.due("hash of -31, as if there were no version", x.hash(x.append(0, -31)), 0);
    }

    /** "31 times the number and x more (both wrap as ints)" */
    private void promise16Wraps() {
        RelaxedRadixVector x = new RelaxedRadixVector();
        int greatest = x.append(0, GREATEST);
        checks.due("hash of the greatest: the sum wraps", x.hash(greatest), LEAST + 30);
        checks.due("hash of the least", x.hash(x.append(0, LEAST)), LEAST + 31);
        int last = x.append(0, GREATEST - 31);
        checks.due("hash of the greatest - 31: no wrap", x.hash(last), GREATEST);
        checks.due("31 times the greatest: the product wraps", x.hash(x.append(last, 0)), GREATEST - 30);
        checks.due("31 times the greatest, and 31 more: both wrap", x.hash(x.append(last, 31)), LEAST);
        int first = x.append(0, LEAST - 31);
        checks.due("hash of the least - 31, which is an int again", x.hash(first), LEAST);
        checks.due("31 times the least", x.hash(x.append(first, 0)), LEAST);
        checks.due("31 times the least, and 1 less", x.hash(x.append(first, -1)), GREATEST);
    }

    /** "for each element x, from the first to the last": List.hashCode is told in the same words. */
    private void promise16OfTheLongest() {
        RelaxedRadixVector x = Vectors.withPushed(80);
        List<Integer> all = new ArrayList<>();
        for (int i = 0; i < 80; i++) {
            all.add(i);
        }
        checks.due("hash(1)", x.hash(1), all.hashCode());
        int open = x.thaw(1);
        checks.due("hash(open)", x.hash(open), all.hashCode());
        x.put(open, 79, -5);
        all.set(79, -5);
        checks.due("hash(open), the last put", x.hash(open), all.hashCode());
        x.put(open, 0, -6);
        all.set(0, -6);
        checks.due("hash(open), the first put", x.hash(open), all.hashCode());
    }

    /** "0 when v is no version" */
    private void promise16NoVersion() {
        for (int v : NO_VERSION) {
            checks.due("hash(" + v + ")", Vectors.mixed().hash(v), 0);
        }
    }

    /** "-1 when a has the lesser element there ..; 1 when b has": as ints, whatever their difference. */
    private void promise17TheLesserElement() {
        int[] rising = {LEAST, LEAST + 1, -1, 0, 1, GREATEST - 1, GREATEST};
        RelaxedRadixVector x = new RelaxedRadixVector();
        for (int element : rising) {
            x.append(0, element);
        }
        for (int a = 0; a < rising.length; a++) {
            for (int b = 0; b < rising.length; b++) {
                checks.due("compare of " + rising[a] + " and " + rising[b], x.compare(a + 1, b + 1),
                    Integer.signum(a - b));
            }
        }
    }

    /** "or has no element there; 1 when b has" */
    private void promise17NoElementThere() {
        RelaxedRadixVector x = Vectors.mixed();
        checks.due("compare(0, 2)", x.compare(0, 2), -1);
        checks.due("compare(2, 0)", x.compare(2, 0), 1);
        checks.due("compare(2, 1)", x.compare(2, 1), -1);
        checks.due("compare(1, 2)", x.compare(1, 2), 1);
        checks.due("compare(5, 4), open", x.compare(5, 4), -1);
        checks.due("compare(4, 5), open", x.compare(4, 5), 1);
        int least = x.append(0, LEAST);
        checks.due("compare of nothing and the least", x.compare(0, least), -1);
        checks.due("compare of the least and nothing", x.compare(least, 0), 1);
        int eighty = x.slice(1, 0, 79);
        checks.due("compare of 79 and 80", x.compare(eighty, 1), -1);
        checks.due("compare of 80 and 79", x.compare(1, eighty), 1);
    }

    /** "compared at the first place at which they differ": not by length, nor at a later place. */
    private void promise17TheFirstPlaceDecides() {
        RelaxedRadixVector x = Vectors.mixed();
        int first = x.set(2, 0, 1);
        int last = x.set(2, 8, 9);
        checks.due("greater at the first place", x.compare(first, 2), 1);
        checks.due("less at the first place", x.compare(2, first), -1);
        checks.due("greater at the last place", x.compare(last, 2), 1);
        checks.due("less at the last place", x.compare(2, last), -1);
        checks.due("greater first, less last", x.compare(first, last), 1);
        checks.due("the shorter one greater", x.compare(first, 1), 1);
        checks.due("the longer one less", x.compare(1, first), -1);
    }

    /** "0 when they are alike": the shape of the tree does not count, nor whether it is open. */
    private void promise17Alike() {
        RelaxedRadixVector x = Vectors.mixed();
        checks.due("compare(0, 0)", x.compare(0, 0), 0);
        checks.due("compare(1, 1)", x.compare(1, 1), 0);
        checks.due("compare(2, 4)", x.compare(2, 4), 0);
        checks.due("compare(4, 2)", x.compare(4, 2), 0);
        checks.due("compare(4, 4)", x.compare(4, 4), 0);
        checks.due("compare(0, 5)", x.compare(0, 5), 0);
        int tight = x.thaw(0);
        for (int i = 3; i < 12; i++) {
            x.push(tight, i);
        }
        checks.dueShape("pushed", x, tight, "3|441");
        checks.due("compare with leaves of 1, 4 and 4", x.compare(tight, 3), 0);
    }

    /** "2 when a or b is no version" */
    private void promise17NoVersion() {
        for (int v : NO_VERSION) {
            RelaxedRadixVector x = Vectors.mixed();
            checks.due("compare(" + v + ", 2)", x.compare(v, 2), 2);
            checks.due("compare(2, " + v + ")", x.compare(2, v), 2);
            checks.due("compare(" + v + ", " + v + ")", x.compare(v, v), 2);
            checks.due("compare(0, " + v + ")", x.compare(0, v), 2);
        }
    }

    /** "(0 of the empty one)" */
    private void promise18ZeroOfTheEmptyOne() {
        RelaxedRadixVector x = Vectors.mixed();
        checks.due("height(0)", x.height(0), 0);
        checks.due("height(5), open", x.height(5), 0);
        checks.due("height of nothing cut out", x.height(x.slice(1, 64, 64)), 0);
    }

    /** "The number of levels of the tree": at the lengths where one more is needed. */
    private void promise18WhereItGrows() {
        RelaxedRadixVector x = Vectors.withPushed(80);
        int[][] heights = {{1, 1}, {4, 1}, {5, 2}, {16, 2}, {17, 3}, {64, 3}, {65, 4}, {80, 4}};
        for (int[] pair : heights) {
            int v = x.slice(1, 0, pair[0]);
            checks.due("height of " + pair[0], x.height(v), pair[1]);
            checks.due("height of " + pair[0] + ", open", x.height(x.thaw(v)), pair[1]);
        }
        checks.due("height of two elements", x.height(x.slice(1, 63, 65)), 4);
    }

    /** "NONE when v is no version" */
    private void promise18NoVersion() {
        for (int v : NO_VERSION) {
            checks.due("height(" + v + ")", Vectors.mixed().height(v), NONE);
        }
    }

    /** "(0 of the empty one)" */
    private void promise19ZeroOfTheEmptyOne() {
        RelaxedRadixVector x = Vectors.mixed();
        checks.due("nodes(0)", x.nodes(0), 0);
        checks.due("nodes(5), open", x.nodes(5), 0);
        checks.due("nodes of nothing cut out", x.nodes(x.slice(1, 64, 64)), 0);
    }

    /** "The number of nodes, on all levels" */
    private void promise19WhereItGrows() {
        RelaxedRadixVector x = Vectors.withPushed(80);
        int[][] nodes = {{1, 1}, {4, 1}, {5, 3}, {16, 5}, {17, 8}, {64, 21}, {65, 25}, {80, 28}};
        for (int[] pair : nodes) {
            int v = x.slice(1, 0, pair[0]);
            checks.due("nodes of " + pair[0], x.nodes(v), pair[1]);
            checks.due("nodes of " + pair[0] + ", open", x.nodes(x.thaw(v)), pair[1]);
        }
        checks.due("nodes of two elements", x.nodes(x.slice(1, 63, 65)), 7);
    }

    /** "NONE when v is no version" */
    private void promise19NoVersion() {
        for (int v : NO_VERSION) {
            checks.due("nodes(" + v + ")", Vectors.mixed().nodes(v), NONE);
        }
    }

    /** "NONE when v is no version" */
    private void promise20NoVersion() {
        for (int v : NO_VERSION) {
            checks.due("row(" + v + ", 1, 0)", Vectors.mixed().row(v, 1, 0), NONE);
        }
    }

    /** "level is not 1 .. its height" */
    private void promise20NoLevel() {
        RelaxedRadixVector x = Vectors.mixed();
        for (int level : new int[] {-1, 0, 5, 6, 7, 8, LEAST, GREATEST}) {
            checks.due("row(1, " + level + ", 0)", x.row(1, level, 0), NONE);
        }
        for (int level : new int[] {-1, 0, 3, 4, 5}) {
            checks.due("row(2, " + level + ", 0)", x.row(2, level, 0), NONE);
            checks.due("row(4, " + level + ", 0), open", x.row(4, level, 0), NONE);
        }
        for (int level : new int[] {-1, 0, 1, 2}) {
            checks.due("row(0, " + level + ", 0)", x.row(0, level, 0), NONE);
            checks.due("row(5, " + level + ", 0), open", x.row(5, level, 0), NONE);
        }
        checks.due("row above a root that was lowered", x.row(x.slice(1, 64, 80), 3, 0), NONE);
    }

    /** "or there is no such node" */
    private void promise20NoNode() {
        RelaxedRadixVector x = Vectors.mixed();
        int[] counts = {20, 5, 2, 1};
        for (int level = 1; level <= 4; level++) {
            for (int k : new int[] {-1, counts[level - 1], counts[level - 1] + 1, 80, LEAST, GREATEST}) {
                checks.due("row(1, " + level + ", " + k + ")", x.row(1, level, k), NONE);
            }
        }
        checks.due("row(4, 1, 3), open", x.row(4, 1, 3), NONE);
        checks.due("row(4, 2, 1), open", x.row(4, 2, 1), NONE);
        for (int n = 0; n < 4; n++) {
            x.push(4, n);
        }
        checks.due("row(4, 1, 3), pushed", x.row(4, 1, 3), 1);
    }

    /** "node number k, counted from 0 from the left" */
    private void promise20FirstAndLastNode() {
        RelaxedRadixVector x = Vectors.withPushed(80);
        int v = x.slice(1, 14, 35);
        int[][] due = {{1, 0, 2}, {1, 1, 4}, {1, 5, 3}, {2, 0, 1}, {2, 1, 4}, {2, 2, 1}, {3, 0, 3}};
        for (int[] row : due) {
            checks.due("row(v, " + row[0] + ", " + row[1] + ")", x.row(v, row[0], row[1]), row[2]);
        }
        checks.due("row(1, 1, 19)", x.row(1, 1, 19), 4);
        checks.due("row(1, 4, 0)", x.row(1, 4, 0), 2);
        checks.due("row of a leaf alone", x.row(x.append(0, 5), 1, 0), 1);
    }

    /** "NONE when v is no version" */
    private void promise21NoVersion() {
        for (int v : NO_VERSION) {
            checks.due("probes(" + v + ", 0)", Vectors.mixed().probes(v, 0), NONE);
        }
    }

    /** "or i is not 0 .. its size - 1" */
    private void promise21NoPlace() {
        RelaxedRadixVector x = Vectors.mixed();
        for (int i : NO_PLACE) {
            checks.due("probes(3, " + i + ")", x.probes(3, i), NONE);
            checks.due("probes(4, " + i + "), open", x.probes(4, i), NONE);
            checks.due("probes(0, " + i + ")", x.probes(0, i), NONE);
        }
        checks.due("probes(0, 0)", x.probes(0, 0), NONE);
        checks.due("probes(5, 0), open", x.probes(5, 0), NONE);
        checks.due("probes(1, 80)", x.probes(1, 80), NONE);
        checks.due("probes(1, 79)", x.probes(1, 79), 0);
        checks.due("probes(3, 0)", x.probes(3, 0), 0);
        checks.due("probes(3, 8)", x.probes(3, 8), 0);
    }

    /** "How far off plain division is": nowhere, where every node but the last ones is full. */
    private void promise21NothingOffInFullTrees() {
        RelaxedRadixVector x = Vectors.withPushed(80);
        for (int i = 0; i < 80; i++) {
            checks.due("probes(1, " + i + ")", x.probes(1, i), 0);
        }
    }

    /** "c - r / 4^(k - 1) (the division rounds down)" */
    private void promise21TheDivisionRoundsDown() {
        RelaxedRadixVector x = Vectors.withPushed(16);
        x.slice(1, 3, 13);
        checks.dueShape("slice(1, 3, 13)", x, 2, "4|1441");
        int[] due = {0, 1, 1, 1, 0, 1, 1, 1, 0, 1};
        for (int i = 0; i < due.length; i++) {
            checks.due("probes(2, " + i + ")", x.probes(2, i), due[i]);
        }
    }

    /** "over the nodes of levels k > 1": a leaf adds nothing. */
    private void promise21LeavesDoNotCount() {
        RelaxedRadixVector x = Vectors.withPushed(4);
        for (int length = 1; length <= 4; length++) {
            int v = x.slice(1, 4 - length, 4);
            for (int i = 0; i < length; i++) {
                checks.due("probes in a leaf of " + length + " at " + i, x.probes(v, i), 0);
            }
            checks.due("probes behind a leaf of " + length, x.probes(v, length), NONE);
        }
    }

    /** "the sum, over the nodes .. under which the place lies": r and c are counted under that node alone. */
    private void promise21AllLevelsCount() {
        RelaxedRadixVector x = Vectors.withPushed(80);
        x.slice(1, 15, 17);
        x.concat(2, 2);
        checks.dueShape("concat(2, 2)", x, 3, "2|31|1111");
        // Place 2: 0 - 2 / 16 at the root, 2 - 2 / 4 below. Place 3: 1 - 3 / 16, then 0 of a first child.
        int[] due = {0, 1, 2, 1};
        for (int i = 0; i < due.length; i++) {
            checks.due("probes(3, " + i + ")", x.probes(3, i), due[i]);
        }
        x.slice(1, 47, 66);
        checks.dueShape("slice(1, 47, 66)", x, 4, "2|21|141|144442");
        // Place 1: 1 - 1 / 16 at level 3. Place 15: the same, and 3 - 14 / 4 below. Place 16: 1 - 16 / 16
        // and 3 - 15 / 4. Place 17: 1 - 17 / 64 at the root, and first children below.
        int[][] high = {{0, 0}, {1, 1}, {4, 1}, {5, 1}, {15, 1}, {16, 0}, {17, 1}, {18, 1}};
        for (int[] pair : high) {
            checks.due("probes(4, " + pair[0] + ")", x.probes(4, pair[0]), pair[1]);
        }
    }

    /** A question makes nothing and changes nothing, also one that has no answer. */
    private void questionsChangeNothing() {
        checks.dueRefused("questions in a row", Vectors::mixed, x -> {
            long sum = x.versions() + x.size(1) + x.get(1, 5) + x.hash(0) + x.compare(1, 1) + x.height(1);
            sum += x.nodes(1) + x.row(1, 1, 0) + x.probes(1, 79);
            sum += x.size(9) + x.get(9, 0) - OUT + x.hash(9) + x.compare(9, 9) + x.height(9) + x.nodes(9);
            return sum + x.row(1, 9, 0) + x.probes(1, 80);
        }, 6 + 80 + 5 + 1 + 4 + 28 + 4 - 1 + 2 - 1 - 1 - 1 - 1);
    }
}
