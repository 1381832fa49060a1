/** Promises 1 to 8: a new object, and the calls that make frozen versions. */
public final class MakingTest {
    private static final int NONE = RelaxedRadixVector.NONE;

    private final Checks checks = new Checks();

    public static void main(String[] args) {
        MakingTest test = new MakingTest();
        test.promise1NewObject();
        test.promise2Append();
        test.promise3Prepend();
        test.promise4Set();
        test.promise5Concat();
        test.promise5ConcatPacks();
        test.promise6Slice();
        test.promise7InsertAt();
        test.promise8RemoveAt();
        test.everyVersionStaysAsItWas();
        test.checks.finish();
    }

    private void promise1NewObject() {
        RelaxedRadixVector x = new RelaxedRadixVector();
        checks.due("versions() of a new object", x.versions(), 1);
        checks.due("size(0)", x.size(0), 0);
        checks.due("height(0)", x.height(0), 0);
        checks.due("nodes(0)", x.nodes(0), 0);
        checks.due("hash(0)", x.hash(0), 1);
        checks.due("get(0, 0)", x.get(0, 0), RelaxedRadixVector.OUT);
        checks.due("push(0, 1)", x.push(0, 1), false);
        checks.due("freeze(0)", x.freeze(0), false);
        checks.due("size(1)", x.size(1), NONE);
        checks.due("append(0, 1)", x.append(0, 1), 1);
        checks.due("size(0) after append", x.size(0), 0);
        checks.due("versions() of another new object", new RelaxedRadixVector().versions(), 1);
    }

    private void promise2Append() {
        String[] shapes = {"", "1", "2", "3", "4", "2|41", "2|42", "2|43", "2|44", "3|441", "3|442",
            "3|443", "3|444", "4|4441", "4|4442", "4|4443", "4|4444", "2|41|44441", "2|41|44442"};
        RelaxedRadixVector x = new RelaxedRadixVector();
        for (int n = 1; n < shapes.length; n++) {
            checks.due("append number " + n, x.append(n - 1, 10 * n), n);
            checks.dueShape(n + " appended", x, n, shapes[n]);
        }
        checks.dueElements("6 appended", x, 6, "10 20 30 40 50 60");

        RelaxedRadixVector gaps = Vectors.withPushed(80);
        checks.dueShape("80 pushed", gaps, 1, "2|41|44444|44444444444444444444");
        gaps.slice(1, 0, 33);
        checks.dueShape("slice(1, 0, 33)", gaps, 2, "3|441|444444441");
        gaps.append(2, 1);
        checks.dueShape("append to a leaf with room", gaps, 3, "3|441|444444442");
        gaps.slice(1, 0, 36);
        gaps.append(4, 1);
        checks.dueShape("append above a full leaf", gaps, 5, "3|442|4444444441");
        gaps.slice(1, 0, 48);
        gaps.append(6, 1);
        checks.dueShape("append of a chain of two levels", gaps, 7, "4|4441|4444444444441");
        gaps.slice(1, 0, 64);
        gaps.append(8, 1);
        checks.dueShape("append of a new root over three levels", gaps, 9, "2|41|44441|44444444444444441");
    }

    private void promise3Prepend() {
        String[] shapes = {"", "1", "2", "3", "4", "2|14", "2|24", "2|34", "2|44", "3|144", "3|244",
            "3|344", "3|444", "4|1444", "4|2444", "4|3444", "4|4444", "2|14|14444", "2|14|24444"};
        RelaxedRadixVector x = new RelaxedRadixVector();
        for (int n = 1; n < shapes.length; n++) {
            checks.due("prepend number " + n, x.prepend(n - 1, 10 * n), n);
            checks.dueShape(n + " prepended", x, n, shapes[n]);
        }
        checks.dueElements("6 prepended", x, 6, "60 50 40 30 20 10");

        RelaxedRadixVector gaps = Vectors.withPushed(64);
        gaps.slice(1, 28, 64);
        checks.dueShape("slice(1, 28, 64)", gaps, 2, "3|144|444444444");
        gaps.prepend(2, 1);
        checks.dueShape("prepend above a full leaf", gaps, 3, "3|244|1444444444");
        gaps.prepend(1, 1);
        checks.dueShape("prepend of a new root over three levels", gaps, 4, "2|14|14444|14444444444444444");
        gaps.slice(1, 16, 64);
        gaps.prepend(5, 1);
        checks.dueShape("prepend of a chain of two levels", gaps, 6, "4|1444|1444444444444");
    }

    private void promise4Set() {
        RelaxedRadixVector x = Vectors.withPushed(6);
        checks.due("set(1, 0, 50)", x.set(1, 0, 50), 2);
        checks.due("set(2, 5, -50)", x.set(2, 5, -50), 3);
        checks.due("set(3, 4, 4), the same", x.set(3, 4, 4), 4);
        checks.dueElements("version 1", x, 1, "0 1 2 3 4 5");
        checks.dueElements("version 2", x, 2, "50 1 2 3 4 5");
        checks.dueElements("version 3", x, 3, "50 1 2 3 4 -50");
        checks.dueElements("version 4", x, 4, "50 1 2 3 4 -50");
        x.slice(1, 3, 6);
        x.set(5, 1, 9);
        checks.dueShape("a set version", x, 6, "2|12");
        checks.dueElements("a set version", x, 6, "3 9 5");
    }

    private void promise5Concat() {
        RelaxedRadixVector x = Vectors.withPushed(80);
        checks.due("concat(0, 0)", x.concat(0, 0), 2);
        checks.due("size of nothing joined with nothing", x.size(2), 0);
        checks.due("height of nothing joined with nothing", x.height(2), 0);
        checks.due("concat(0, 1)", x.concat(0, 1), 3);
        checks.due("concat(1, 0)", x.concat(1, 0), 4);
        checks.due("compare(1, 3)", x.compare(1, 3), 0);
        checks.due("compare(1, 4)", x.compare(1, 4), 0);
        checks.dueShape("concat(0, 1)", x, 3, "2|41|44444|44444444444444444444");
        int one = x.append(0, 5);
        int two = x.concat(one, one);
        checks.dueShape("a leaf joined with itself", x, two, "2|11");
        int three = x.concat(two, one);
        checks.dueShape("two leaves and one, packed", x, three, "2|21");
        checks.dueShape("one leaf and two, packed", x, x.concat(one, two), "2|21");
        checks.dueElements("concat of 5 5 and 5", x, three, "5 5 5");
        int low = x.slice(1, 0, 2);
        int high = x.slice(1, 2, 19);
        checks.dueShape("slice(1, 2, 19)", x, high, "2|41|24443");
        checks.dueElements("a low tree before a high one", x, x.concat(low, high),
            "0 1 2 3 4 5 6 7 8 9 10 11 12 13 14 15 16 17 18");
        checks.dueShape("a low tree before a high one", x, Vectors.newest(x), "3|411|224443");
        checks.dueShape("a high tree before a low one", x, x.concat(high, low), "2|42|244432");
    }

    private void promise5ConcatPacks() {
        RelaxedRadixVector x = Vectors.withPushed(80);
        int a = x.slice(1, 0, 5);
        int b = x.slice(1, 3, 8);
        checks.dueShape("slice(1, 3, 8)", x, b, "2|14");
        int loose = x.concat(a, b);
        checks.dueShape("4 leaves with 10 elements, let alone", x, loose, "4|4114");
        checks.dueShape("8 leaves with 20 elements, packed to 6", x, x.concat(loose, loose), "2|42|444314");
        int full = x.slice(1, 0, 32);
        checks.dueShape("8 full leaves", x, full, "2|44|44444444");
        checks.dueShape("full trees, nothing to pack", x, x.concat(full, full), "4|4444|4444444444444444");
        int c = x.slice(1, 15, 17);
        checks.dueShape("slice(1, 15, 17)", x, c, "2|11|11");
        int d = x.concat(c, c);
        checks.dueShape("a row of level 2 that is packed", x, d, "2|31|1111");
        checks.dueElements("the same", x, d, "15 16 15 16");
    }

    private void promise6Slice() {
        RelaxedRadixVector x = Vectors.withPushed(80);
        checks.dueElements("slice(1, 3, 7)", x, x.slice(1, 3, 7), "3 4 5 6");
        checks.dueShape("slice(1, 3, 7)", x, 2, "2|13");
        checks.dueShape("slice(1, 0, 80), all", x, x.slice(1, 0, 80), "2|41|44444|44444444444444444444");
        checks.dueShape("slice(1, 4, 8), a leaf", x, x.slice(1, 4, 8), "4");
        checks.dueShape("slice(1, 5, 7), in a leaf", x, x.slice(1, 5, 7), "2");
        checks.dueShape("slice(1, 63, 65), over the middle", x, x.slice(1, 63, 65), "2|11|11|11");
        checks.dueShape("slice(1, 64, 80), three levels lower", x, x.slice(1, 64, 80), "4|4444");
        checks.dueShape("slice(1, 0, 1)", x, x.slice(1, 0, 1), "1");
        checks.dueShape("slice(1, 79, 80)", x, x.slice(1, 79, 80), "1");
        checks.dueShape("slice(1, 14, 35)", x, x.slice(1, 14, 35), "3|141|244443");
        for (int place : new int[] {0, 1, 40, 80}) {
            int v = x.slice(1, place, place);
            checks.due("size of nothing from " + place, x.size(v), 0);
            checks.due("height of nothing from " + place, x.height(v), 0);
            checks.due("nodes of nothing from " + place, x.nodes(v), 0);
        }
        checks.due("slice(0, 0, 0)", x.slice(0, 0, 0), x.versions() - 1);
    }

    private void promise7InsertAt() {
        RelaxedRadixVector x = Vectors.withPushed(8);
        checks.due("insertAt(0, 0, 9)", x.insertAt(0, 0, 9), 2);
        checks.dueShape("insertAt(0, 0, 9)", x, 2, "1");
        checks.dueElements("insertAt(1, 0, 9)", x, x.insertAt(1, 0, 9), "9 0 1 2 3 4 5 6 7");
        checks.dueShape("insertAt(1, 0, 9)", x, 3, "3|144");
        checks.dueElements("insertAt(1, 8, 9)", x, x.insertAt(1, 8, 9), "0 1 2 3 4 5 6 7 9");
        checks.dueShape("insertAt(1, 8, 9)", x, 4, "3|441");
        checks.dueElements("insertAt(1, 5, 9)", x, x.insertAt(1, 5, 9), "0 1 2 3 4 9 5 6 7");
        checks.dueShape("insertAt(1, 5, 9)", x, 5, "3|423");
        checks.dueShape("insertAt(1, 4, 9)", x, x.insertAt(1, 4, 9), "3|414");
        checks.dueElements("version 1 after that", x, 1, "0 1 2 3 4 5 6 7");
        RelaxedRadixVector high = Vectors.withPushed(65);
        checks.dueShape("a leaf meeting a tree of 4 levels", high, high.insertAt(1, 1, 9),
            "3|411|414441|234444444444444441");
    }

    private void promise8RemoveAt() {
        RelaxedRadixVector x = Vectors.withPushed(8);
        checks.dueElements("removeAt(1, 0)", x, x.removeAt(1, 0), "1 2 3 4 5 6 7");
        checks.dueShape("removeAt(1, 0)", x, 2, "2|34");
        checks.dueElements("removeAt(1, 7)", x, x.removeAt(1, 7), "0 1 2 3 4 5 6");
        checks.dueShape("removeAt(1, 7)", x, 3, "2|43");
        checks.dueElements("removeAt(1, 5)", x, x.removeAt(1, 5), "0 1 2 3 4 6 7");
        checks.dueShape("removeAt(1, 5)", x, 4, "3|412");
        checks.dueElements("removeAt(1, 4)", x, x.removeAt(1, 4), "0 1 2 3 5 6 7");
        checks.dueShape("removeAt(1, 4)", x, 5, "2|43");
        int one = x.append(0, 3);
        int none = x.removeAt(one, 0);
        checks.due("size of one element less one", x.size(none), 0);
        checks.due("height of one element less one", x.height(none), 0);
        checks.dueElements("version 1 after that", x, 1, "0 1 2 3 4 5 6 7");
    }

    private void everyVersionStaysAsItWas() {
        RelaxedRadixVector x = Vectors.withPushed(21);
        String shape = Vectors.shape(x, 1);
        String elements = Vectors.elements(x, 1);
        x.append(1, 1);
        x.prepend(1, 1);
        x.set(1, 3, 1);
        x.concat(1, 1);
        x.slice(1, 3, 9);
        x.insertAt(1, 10, 1);
        x.removeAt(1, 10);
        int open = x.thaw(1);
        x.push(open, 1);
        x.put(open, 2, 1);
        checks.dueShape("a version after eight edits of it", x, 1, shape);
        checks.dueElements("a version after eight edits of it", x, 1, elements);
        checks.due("versions() after eight edits", x.versions(), 10);
    }
}
