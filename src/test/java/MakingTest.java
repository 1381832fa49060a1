/** Promises 1 to 8: a new object, and the calls that make frozen versions. */
public final class MakingTest {
    private static final int NONE = RelaxedRadixVector.NONE;
    private static final int FULL = RelaxedRadixVector.FULL;
    private static final int LONG = RelaxedRadixVector.LONG;
    private static final int TALL = RelaxedRadixVector.TALL;

    private final Checks checks = new Checks();

    public static void main(String[] args) {
        MakingTest test = new MakingTest();
        test.promise1NewObject();
        test.promise2Append();
        test.promise2AppendRefused();
        test.promise3Prepend();
        test.promise3PrependRefused();
        test.promise4Set();
        test.promise4SetRefused();
        test.promise5Concat();
        test.promise5ConcatPacks();
        test.promise5ConcatRefused();
        test.promise6Slice();
        test.promise6SliceRefused();
        test.promise7InsertAt();
        test.promise7InsertAtRefused();
        test.promise8RemoveAt();
        test.promise8RemoveAtRefused();
        test.everyVersionStaysAsItWas();
        test.checks.finish();
    }

    private void dueShape(String what, RelaxedRadixVector x, int v, String want) {
        checks.due("shape of " + what, Vectors.shape(x, v), want);
    }

    private void dueElements(String what, RelaxedRadixVector x, int v, String want) {
        checks.due("elements of " + what, Vectors.elements(x, v), want);
    }

    private void promise1NewObject() {
        RelaxedRadixVector x = new RelaxedRadixVector();
        checks.due("versions() of a new object", x.versions(), 1);
        checks.due("size(0)", x.size(0), 0);
        checks.due("height(0)", x.height(0), 0);
        checks.due("nodes(0)", x.nodes(0), 0);
        checks.due("hash(0)", x.hash(0), 1);
        checks.due("get(0, 0)", x.get(0, 0), RelaxedRadixVector.OUT);
        checks.due("push(0, 1)", x.push(0, 1), false);
        checks.due("freeze(0)", x.freeze(0), false);
        checks.due("size(1)", x.size(1), NONE);
        checks.due("append(0, 1)", x.append(0, 1), 1);
        checks.due("size(0) after append", x.size(0), 0);
        checks.due("versions() of another new object", new RelaxedRadixVector().versions(), 1);
    }

    private void promise2Append() {
        String[] shapes = {"", "1", "2", "3", "4", "2|41", "2|42", "2|43", "2|44", "3|441", "3|442",
            "3|443", "3|444", "4|4441", "4|4442", "4|4443", "4|4444", "2|41|44441", "2|41|44442"};
        RelaxedRadixVector x = new RelaxedRadixVector();
        for (int n = 1; n < shapes.length; n++) {
            checks.due("append number " + n, x.append(n - 1, 10 * n), n);
            dueShape(n + " appended", x, n, shapes[n]);
        }
        dueElements("6 appended", x, 6, "10 20 30 40 50 60");

        RelaxedRadixVector gaps = Vectors.withPushed(80);
        dueShape("80 pushed", gaps, 1, "2|41|44444|44444444444444444444");
        gaps.slice(1, 0, 33);
        dueShape("slice(1, 0, 33)", gaps, 2, "3|441|444444441");
        gaps.append(2, 1);
        dueShape("append to a leaf with room", gaps, 3, "3|441|444444442");
        gaps.slice(1, 0, 36);
        gaps.append(4, 1);
        dueShape("append above a full leaf", gaps, 5, "3|442|4444444441");
        gaps.slice(1, 0, 48);
        gaps.append(6, 1);
        dueShape("append of a chain of two levels", gaps, 7, "4|4441|4444444444441");
        gaps.slice(1, 0, 64);
        gaps.append(8, 1);
        dueShape("append of a new root over three levels", gaps, 9, "2|41|44441|44444444444444441");
    }

    private void promise2AppendRefused() {
        RelaxedRadixVector x = Vectors.withPushed(80);
        for (int v : Vectors.NO_VERSIONS) {
            checks.due("append(" + v + ", 1)", x.append(v, 1), NONE);
        }
        checks.due("append(2, 1) without version 2", x.append(2, 1), NONE);
        int open = x.thaw(0);
        checks.due("append to an open version", x.append(open, 1), NONE);
        checks.due("append to 80 elements", x.append(1, 1), LONG);
        checks.due("append to 79 elements", x.append(x.slice(1, 1, 80), 1), 4);
        checks.due("versions() after refusals", x.versions(), 5);
        Vectors.fillUp(x);
        checks.due("append to an open version when full", x.append(open, 1), NONE);
        checks.due("append to 80 elements when full", x.append(1, 1), FULL);
        checks.due("append(0, 1) when full", x.append(0, 1), FULL);
        checks.due("versions() when full", x.versions(), 40);

        RelaxedRadixVector tall = Vectors.after(Vectors.TALL_BY_APPEND);
        int v = Vectors.newest(tall);
        dueShape("a version full at its end", tall, v, "4|1414|1414141414|1441244214444432441441444");
        checks.due("append to it", tall.append(v, 1), TALL);
        checks.due("versions() after it", tall.versions(), v + 1);
        checks.due("prepend to it", tall.prepend(v, 1), v + 1);
        Vectors.fillUp(tall);
        checks.due("append to it when full", tall.append(v, 1), FULL);
    }

    private void promise3Prepend() {
        String[] shapes = {"", "1", "2", "3", "4", "2|14", "2|24", "2|34", "2|44", "3|144", "3|244",
            "3|344", "3|444", "4|1444", "4|2444", "4|3444", "4|4444", "2|14|14444", "2|14|24444"};
        RelaxedRadixVector x = new RelaxedRadixVector();
        for (int n = 1; n < shapes.length; n++) {
            checks.due("prepend number " + n, x.prepend(n - 1, 10 * n), n);
            dueShape(n + " prepended", x, n, shapes[n]);
        }
        dueElements("6 prepended", x, 6, "60 50 40 30 20 10");

        RelaxedRadixVector gaps = Vectors.withPushed(64);
        gaps.slice(1, 28, 64);
        dueShape("slice(1, 28, 64)", gaps, 2, "3|144|444444444");
        gaps.prepend(2, 1);
        dueShape("prepend above a full leaf", gaps, 3, "3|244|1444444444");
        gaps.prepend(1, 1);
        dueShape("prepend of a new root over three levels", gaps, 4, "2|14|14444|14444444444444444");
        gaps.slice(1, 16, 64);
        gaps.prepend(5, 1);
        dueShape("prepend of a chain of two levels", gaps, 6, "4|1444|1444444444444");
    }

    private void promise3PrependRefused() {
        RelaxedRadixVector x = Vectors.withPushed(80);
        for (int v : Vectors.NO_VERSIONS) {
            checks.due("prepend(" + v + ", 1)", x.prepend(v, 1), NONE);
        }
        int open = x.thaw(0);
        checks.due("prepend to an open version", x.prepend(open, 1), NONE);
        checks.due("prepend to 80 elements", x.prepend(1, 1), LONG);
        checks.due("versions() after refusals", x.versions(), 3);
        Vectors.fillUp(x);
        checks.due("prepend to an open version when full", x.prepend(open, 1), NONE);
        checks.due("prepend to 80 elements when full", x.prepend(1, 1), FULL);

        RelaxedRadixVector tall = Vectors.after(Vectors.TALL_BY_PREPEND);
        int v = Vectors.newest(tall);
        dueShape("a version full at its start", tall, v, "4|4411|4141431413|44412421444414441242144441");
        checks.due("prepend to it", tall.prepend(v, 1), TALL);
        checks.due("versions() after it", tall.versions(), v + 1);
        checks.due("append to it", tall.append(v, 1), v + 1);
        tall.append(v + 1, 1);
        checks.due("size of it with two more", tall.size(v + 2), 80);
        checks.due("prepend, too long and too tall", tall.prepend(v + 2, 1), LONG);
        Vectors.fillUp(tall);
        checks.due("prepend to it when full", tall.prepend(v, 1), FULL);
    }

    private void promise4Set() {
        RelaxedRadixVector x = Vectors.withPushed(6);
        checks.due("set(1, 0, 50)", x.set(1, 0, 50), 2);
        checks.due("set(2, 5, -50)", x.set(2, 5, -50), 3);
        checks.due("set(3, 4, 4), the same", x.set(3, 4, 4), 4);
        dueElements("version 1", x, 1, "0 1 2 3 4 5");
        dueElements("version 2", x, 2, "50 1 2 3 4 5");
        dueElements("version 3", x, 3, "50 1 2 3 4 -50");
        dueElements("version 4", x, 4, "50 1 2 3 4 -50");
        x.slice(1, 3, 6);
        x.set(5, 1, 9);
        dueShape("a set version", x, 6, "2|12");
        dueElements("a set version", x, 6, "3 9 5");
    }

    private void promise4SetRefused() {
        RelaxedRadixVector x = Vectors.withPushed(80);
        for (int v : Vectors.NO_VERSIONS) {
            checks.due("set(" + v + ", 0, 1)", x.set(v, 0, 1), NONE);
        }
        for (int i : new int[] {-1, 80, 81, Integer.MAX_VALUE, Integer.MIN_VALUE}) {
            checks.due("set(1, " + i + ", 1)", x.set(1, i, 1), NONE);
        }
        checks.due("set(0, 0, 1)", x.set(0, 0, 1), NONE);
        int open = x.thaw(1);
        checks.due("set in an open version", x.set(open, 0, 1), NONE);
        checks.due("set in 80 elements", x.set(1, 79, 1), 3);
        Vectors.fillUp(x);
        checks.due("set at no place when full", x.set(1, 80, 1), NONE);
        checks.due("set in an open version when full", x.set(open, 0, 1), NONE);
        checks.due("set when full", x.set(1, 0, 1), FULL);
    }

    private void promise5Concat() {
        RelaxedRadixVector x = Vectors.withPushed(80);
        checks.due("concat(0, 0)", x.concat(0, 0), 2);
        checks.due("size of nothing joined with nothing", x.size(2), 0);
        checks.due("height of nothing joined with nothing", x.height(2), 0);
        checks.due("concat(0, 1)", x.concat(0, 1), 3);
        checks.due("concat(1, 0)", x.concat(1, 0), 4);
        checks.due("compare(1, 3)", x.compare(1, 3), 0);
        checks.due("compare(1, 4)", x.compare(1, 4), 0);
        dueShape("concat(0, 1)", x, 3, "2|41|44444|44444444444444444444");
        int one = x.append(0, 5);
        int two = x.concat(one, one);
        dueShape("a leaf joined with itself", x, two, "2|11");
        int three = x.concat(two, one);
        dueShape("two leaves and one, packed", x, three, "2|21");
        dueShape("one leaf and two, packed", x, x.concat(one, two), "2|21");
        dueElements("concat of 5 5 and 5", x, three, "5 5 5");
        int low = x.slice(1, 0, 2);
        int high = x.slice(1, 2, 19);
        dueShape("slice(1, 2, 19)", x, high, "2|41|24443");
        dueElements("a low tree before a high one", x, x.concat(low, high),
            "0 1 2 3 4 5 6 7 8 9 10 11 12 13 14 15 16 17 18");
        dueShape("a low tree before a high one", x, Vectors.newest(x), "3|411|224443");
        dueShape("a high tree before a low one", x, x.concat(high, low), "2|42|244432");
    }

    private void promise5ConcatPacks() {
        RelaxedRadixVector x = Vectors.withPushed(80);
        int a = x.slice(1, 0, 5);
        int b = x.slice(1, 3, 8);
        dueShape("slice(1, 3, 8)", x, b, "2|14");
        int loose = x.concat(a, b);
        dueShape("4 leaves with 10 elements, let alone", x, loose, "4|4114");
        dueShape("8 leaves with 20 elements, packed to 6", x, x.concat(loose, loose), "2|42|444314");
        int full = x.slice(1, 0, 32);
        dueShape("8 full leaves", x, full, "2|44|44444444");
        dueShape("full trees, nothing to pack", x, x.concat(full, full), "4|4444|4444444444444444");
        int c = x.slice(1, 15, 17);
        dueShape("slice(1, 15, 17)", x, c, "2|11|11");
        int d = x.concat(c, c);
        dueShape("a row of level 2 that is packed", x, d, "2|31|1111");
        dueElements("the same", x, d, "15 16 15 16");
    }

    private void promise5ConcatRefused() {
        RelaxedRadixVector x = Vectors.withPushed(80);
        for (int v : Vectors.NO_VERSIONS) {
            checks.due("concat(" + v + ", 1)", x.concat(v, 1), NONE);
            checks.due("concat(1, " + v + ")", x.concat(1, v), NONE);
        }
        int open = x.thaw(0);
        checks.due("concat of an open version", x.concat(open, 0), NONE);
        checks.due("concat with an open version", x.concat(0, open), NONE);
        int forty = x.slice(1, 0, 40);
        int more = x.slice(1, 0, 41);
        checks.due("concat of 40 and 41", x.concat(forty, more), LONG);
        checks.due("concat of 41 and 40", x.concat(more, forty), LONG);
        checks.due("concat of 80 and 80", x.concat(1, 1), LONG);
        checks.due("concat of 40 and 40", x.concat(forty, forty), 5);
        Vectors.fillUp(x);
        checks.due("concat of an open version when full", x.concat(open, 1), NONE);
        checks.due("concat with an open version when full", x.concat(1, open), NONE);
        checks.due("concat of 80 and 80 when full", x.concat(1, 1), FULL);

        RelaxedRadixVector tall = Vectors.after(Vectors.TALL_BY_DOUBLE);
        int v = Vectors.newest(tall);
        dueShape("a loose version", tall, v, "3|421|1414312|1412421144214144");
        checks.due("concat of it with itself", tall.concat(v, v), TALL);
        checks.due("versions() after it", tall.versions(), v + 1);
        Vectors.fillUp(tall);
        checks.due("concat of it when full", tall.concat(v, v), FULL);
        RelaxedRadixVector both = Vectors.after(Vectors.TALL_BY_PREPEND);
        int w = Vectors.newest(both);
        checks.due("concat, too long and too tall", both.concat(w, w), LONG);
    }

    private void promise6Slice() {
        RelaxedRadixVector x = Vectors.withPushed(80);
        dueElements("slice(1, 3, 7)", x, x.slice(1, 3, 7), "3 4 5 6");
        dueShape("slice(1, 3, 7)", x, 2, "2|13");
        dueShape("slice(1, 0, 80), all", x, x.slice(1, 0, 80), "2|41|44444|44444444444444444444");
        dueShape("slice(1, 4, 8), a leaf", x, x.slice(1, 4, 8), "4");
        dueShape("slice(1, 5, 7), in a leaf", x, x.slice(1, 5, 7), "2");
        dueShape("slice(1, 63, 65), over the middle", x, x.slice(1, 63, 65), "2|11|11|11");
        dueShape("slice(1, 64, 80), three levels lower", x, x.slice(1, 64, 80), "4|4444");
        dueShape("slice(1, 0, 1)", x, x.slice(1, 0, 1), "1");
        dueShape("slice(1, 79, 80)", x, x.slice(1, 79, 80), "1");
        dueShape("slice(1, 14, 35)", x, x.slice(1, 14, 35), "3|141|244443");
        for (int place : new int[] {0, 1, 40, 80}) {
            int v = x.slice(1, place, place);
            checks.due("size of nothing from " + place, x.size(v), 0);
            checks.due("height of nothing from " + place, x.height(v), 0);
            checks.due("nodes of nothing from " + place, x.nodes(v), 0);
        }
        checks.due("slice(0, 0, 0)", x.slice(0, 0, 0), x.versions() - 1);
    }

    private void promise6SliceRefused() {
        RelaxedRadixVector x = Vectors.withPushed(10);
        for (int v : Vectors.NO_VERSIONS) {
            checks.due("slice(" + v + ", 0, 0)", x.slice(v, 0, 0), NONE);
        }
        int[][] wrong = {{-1, 5}, {0, 11}, {5, 4}, {11, 11}, {-1, -1}, {10, 9},
            {Integer.MIN_VALUE, Integer.MAX_VALUE}, {0, Integer.MAX_VALUE}, {Integer.MIN_VALUE, 3}};
        for (int[] range : wrong) {
            checks.due("slice(1, " + range[0] + ", " + range[1] + ")", x.slice(1, range[0], range[1]), NONE);
        }
        int open = x.thaw(1);
        checks.due("slice of an open version", x.slice(open, 0, 1), NONE);
        checks.due("versions() after refusals", x.versions(), 3);
        Vectors.fillUp(x);
        checks.due("slice(1, 5, 4) when full", x.slice(1, 5, 4), NONE);
        checks.due("slice(1, 4, 5) when full", x.slice(1, 4, 5), FULL);
        checks.due("slice(0, 0, 0) when full", x.slice(0, 0, 0), FULL);
    }

    private void promise7InsertAt() {
        RelaxedRadixVector x = Vectors.withPushed(8);
        checks.due("insertAt(0, 0, 9)", x.insertAt(0, 0, 9), 2);
        dueShape("insertAt(0, 0, 9)", x, 2, "1");
        dueElements("insertAt(1, 0, 9)", x, x.insertAt(1, 0, 9), "9 0 1 2 3 4 5 6 7");
        dueShape("insertAt(1, 0, 9)", x, 3, "3|144");
        dueElements("insertAt(1, 8, 9)", x, x.insertAt(1, 8, 9), "0 1 2 3 4 5 6 7 9");
        dueShape("insertAt(1, 8, 9)", x, 4, "3|441");
        dueElements("insertAt(1, 5, 9)", x, x.insertAt(1, 5, 9), "0 1 2 3 4 9 5 6 7");
        dueShape("insertAt(1, 5, 9)", x, 5, "3|423");
        dueShape("insertAt(1, 4, 9)", x, x.insertAt(1, 4, 9), "3|414");
        dueElements("version 1 after that", x, 1, "0 1 2 3 4 5 6 7");
        RelaxedRadixVector high = Vectors.withPushed(65);
        dueShape("a leaf meeting a tree of 4 levels", high, high.insertAt(1, 1, 9),
            "3|411|414441|234444444444444441");
    }

    private void promise7InsertAtRefused() {
        RelaxedRadixVector x = Vectors.withPushed(80);
        for (int v : Vectors.NO_VERSIONS) {
            checks.due("insertAt(" + v + ", 0, 1)", x.insertAt(v, 0, 1), NONE);
        }
        for (int i : new int[] {-1, 81, Integer.MAX_VALUE, Integer.MIN_VALUE}) {
            checks.due("insertAt(1, " + i + ", 1)", x.insertAt(1, i, 1), NONE);
        }
        checks.due("insertAt(0, 1, 1)", x.insertAt(0, 1, 1), NONE);
        int open = x.thaw(0);
        checks.due("insertAt in an open version", x.insertAt(open, 0, 1), NONE);
        checks.due("insertAt(1, 0, 1) in 80 elements", x.insertAt(1, 0, 1), LONG);
        checks.due("insertAt(1, 80, 1) in 80 elements", x.insertAt(1, 80, 1), LONG);
        Vectors.fillUp(x);
        checks.due("insertAt(1, 81, 1) when full", x.insertAt(1, 81, 1), NONE);
        checks.due("insertAt(1, 80, 1) when full", x.insertAt(1, 80, 1), FULL);

        RelaxedRadixVector tall = Vectors.after(Vectors.TALL_BY_INSERT_AT_43);
        int v = Vectors.newest(tall);
        dueShape("a loose version", tall, v, "4|4431|144411411111|343444444444132414222213");
        checks.due("insertAt in it", tall.insertAt(v, 43, 1), TALL);
        checks.due("versions() after it", tall.versions(), v + 1);
        Vectors.fillUp(tall);
        checks.due("insertAt in it when full", tall.insertAt(v, 43, 1), FULL);
        RelaxedRadixVector end = Vectors.after(Vectors.TALL_BY_APPEND);
        int w = Vectors.newest(end);
        checks.due("insertAt the end of a version full there", end.insertAt(w, end.size(w), 1), TALL);
        checks.due("insertAt the start of it", end.insertAt(w, 0, 1), w + 1);
    }

    private void promise8RemoveAt() {
        RelaxedRadixVector x = Vectors.withPushed(8);
        dueElements("removeAt(1, 0)", x, x.removeAt(1, 0), "1 2 3 4 5 6 7");
        dueShape("removeAt(1, 0)", x, 2, "2|34");
        dueElements("removeAt(1, 7)", x, x.removeAt(1, 7), "0 1 2 3 4 5 6");
        dueShape("removeAt(1, 7)", x, 3, "2|43");
        dueElements("removeAt(1, 5)", x, x.removeAt(1, 5), "0 1 2 3 4 6 7");
        dueShape("removeAt(1, 5)", x, 4, "3|412");
        dueElements("removeAt(1, 4)", x, x.removeAt(1, 4), "0 1 2 3 5 6 7");
        dueShape("removeAt(1, 4)", x, 5, "2|43");
        int one = x.append(0, 3);
        int none = x.removeAt(one, 0);
        checks.due("size of one element less one", x.size(none), 0);
        checks.due("height of one element less one", x.height(none), 0);
        dueElements("version 1 after that", x, 1, "0 1 2 3 4 5 6 7");
    }

    private void promise8RemoveAtRefused() {
        RelaxedRadixVector x = Vectors.withPushed(80);
        for (int v : Vectors.NO_VERSIONS) {
            checks.due("removeAt(" + v + ", 0)", x.removeAt(v, 0), NONE);
        }
        for (int i : new int[] {-1, 80, 81, Integer.MAX_VALUE, Integer.MIN_VALUE}) {
            checks.due("removeAt(1, " + i + ")", x.removeAt(1, i), NONE);
        }
        checks.due("removeAt(0, 0)", x.removeAt(0, 0), NONE);
        int open = x.thaw(1);
        checks.due("removeAt in an open version", x.removeAt(open, 0), NONE);
        Vectors.fillUp(x);
        checks.due("removeAt(1, 80) when full", x.removeAt(1, 80), NONE);
        checks.due("removeAt(1, 79) when full", x.removeAt(1, 79), FULL);

        RelaxedRadixVector tall = Vectors.after(Vectors.TALL_BY_REMOVE_AT_9);
        int v = Vectors.newest(tall);
        dueShape("a loose version", tall, v, "4|4233|441411141411|444444421222441244214444122");
        checks.due("removeAt in it", tall.removeAt(v, 9), TALL);
        checks.due("versions() after it", tall.versions(), v + 1);
        Vectors.fillUp(tall);
        checks.due("removeAt in it when full", tall.removeAt(v, 9), FULL);
    }

    private void everyVersionStaysAsItWas() {
        RelaxedRadixVector x = Vectors.withPushed(21);
        String shape = Vectors.shape(x, 1);
        String elements = Vectors.elements(x, 1);
        x.append(1, 1);
        x.prepend(1, 1);
        x.set(1, 3, 1);
        x.concat(1, 1);
        x.slice(1, 3, 9);
        x.insertAt(1, 10, 1);
        x.removeAt(1, 10);
        int open = x.thaw(1);
        x.push(open, 1);
        x.put(open, 2, 1);
        dueShape("a version after eight edits of it", x, 1, shape);
        dueElements("a version after eight edits of it", x, 1, elements);
        checks.due("versions() after eight edits", x.versions(), 10);
    }
}
