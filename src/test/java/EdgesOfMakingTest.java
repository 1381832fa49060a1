import java.util.function.Supplier;

/** The edges that promises 1 to 8 name: one test for each sentence, or part of one, that names one. */
public final class EdgesOfMakingTest {
    private static final int NONE = RelaxedRadixVector.NONE;
    private static final int FULL = RelaxedRadixVector.FULL;
    private static final int LONG = RelaxedRadixVector.LONG;
    private static final int TALL = RelaxedRadixVector.TALL;
    private static final int LEAST = Integer.MIN_VALUE;
    private static final int GREATEST = Integer.MAX_VALUE;

    /** Of Vectors.mixed: no versions (6 is the next number), and versions that are open. */
    private static final int[] NO_FROZEN = {-1, 6, 39, 40, 41, LEAST, GREATEST, 4, 5};

    private final Checks checks = new Checks();

    public static void main(String[] args) {
        EdgesOfMakingTest test = new EdgesOfMakingTest();
        test.promise1VersionZeroAlone();
        test.promise1VersionZeroIsFrozen();
        test.promise2NoFrozenVersion();
        test.promise2Full();
        test.promise2Long();
        test.promise2Tall();
        test.promise2LeastAndGreatestElement();
        test.promise3NoFrozenVersion();
        test.promise3Full();
        test.promise3Long();
        test.promise3Tall();
        test.promise3LeastAndGreatestElement();
        test.promise4AlsoIfItIsThatAlready();
        test.promise4FirstAndLastPlace();
        test.promise4NoFrozenVersion();
        test.promise4NoPlace();
        test.promise4Full();
        test.promise4NeitherLongNorTall();
        test.promise5TheSame();
        test.promise5NoFrozenVersion();
        test.promise5Full();
        test.promise5Long();
        test.promise5Tall();
        test.promise6NoneIfFromIsTo();
        test.promise6FromTheStartAndToTheEnd();
        test.promise6NoFrozenVersion();
        test.promise6NoRange();
        test.promise6Full();
        test.promise7AtTheStart();
        test.promise7AtTheEnd();
        test.promise7NoFrozenVersion();
        test.promise7NoPlace();
        test.promise7Full();
        test.promise7Long();
        test.promise7Tall();
        test.promise8FirstAndLastPlace();
        test.promise8TheOnlyElement();
        test.promise8NoFrozenVersion();
        test.promise8NoPlace();
        test.promise8Full();
        test.promise8NotLong();
        test.promise8Tall();
        test.checks.finish();
    }

    private static Supplier<RelaxedRadixVector> after(String edits) {
        return () -> Vectors.after(edits);
    }

    private static int newest(RelaxedRadixVector x) {
        return Vectors.newest(x);
    }

    /** "Version 0 alone: the empty sequence" */
    private void promise1VersionZeroAlone() {
        RelaxedRadixVector x = new RelaxedRadixVector();
        checks.due("versions()", x.versions(), 1);
        checks.dueEmpty("version 0", x, 0);
        for (int v : new int[] {-1, 1, 2, 39, 40, LEAST, GREATEST}) {
            checks.due("size(" + v + ")", x.size(v), NONE);
        }
    }

    /** ".. frozen." */
    private void promise1VersionZeroIsFrozen() {
        checks.dueRefused("push(0, 1)", RelaxedRadixVector::new, x -> x.push(0, 1) ? 1 : 0, 0);
        checks.dueRefused("put(0, 0, 1)", RelaxedRadixVector::new, x -> x.put(0, 0, 1) ? 1 : 0, 0);
        checks.dueRefused("freeze(0)", RelaxedRadixVector::new, x -> x.freeze(0) ? 1 : 0, 0);
        checks.due("thaw(0)", new RelaxedRadixVector().thaw(0), 1);
    }

    /** "NONE (v is no frozen version)" */
    private void promise2NoFrozenVersion() {
        for (int v : NO_FROZEN) {
            checks.dueRefused("append(" + v + ", 1)", Vectors::mixed, x -> x.append(v, 1), NONE);
        }
    }

    /** "FULL" */
    private void promise2Full() {
        for (int v : new int[] {0, 1, 2, 39}) {
            checks.dueRefused("append(" + v + ", 1) when full", Vectors::mixedFull, x -> x.append(v, 1), FULL);
        }
    }

    /** "LONG" */
    private void promise2Long() {
        checks.dueRefused("append to 80", Vectors::mixed, x -> x.append(1, 1), LONG);
        RelaxedRadixVector x = Vectors.withPushed(79);
        checks.due("append to 79", x.append(1, 1), 2);
        checks.due("append to 79 and 1", x.append(2, 1), LONG);
    }

    /** "TALL" */
    private void promise2Tall() {
        RelaxedRadixVector x = Vectors.after(Vectors.TALL_BY_APPEND);
        int v = newest(x);
        checks.dueShape("a version full at its end", x, v, "4|1414|1414141414|1441244214444432441441444");
        checks.due("prepend to it", x.prepend(v, 1), v + 1);
        checks.dueRefused("append to it", after(Vectors.TALL_BY_APPEND), y -> y.append(newest(y), 1), TALL);
    }

    /** An element is any int: the least and the greatest are kept as they are. */
    private void promise2LeastAndGreatestElement() {
        RelaxedRadixVector x = Vectors.withPushed(4);
        checks.due("the least", x.get(x.append(1, LEAST), 4), LEAST);
        checks.due("the greatest", x.get(x.append(1, GREATEST), 4), GREATEST);
        checks.due("-1, which is no refusal here", x.get(x.append(1, -1), 4), -1);
    }

    /** "NONE (v is no frozen version)" */
    private void promise3NoFrozenVersion() {
        for (int v : NO_FROZEN) {
            checks.dueRefused("prepend(" + v + ", 1)", Vectors::mixed, x -> x.prepend(v, 1), NONE);
        }
    }

    /** "FULL" */
    private void promise3Full() {
        for (int v : new int[] {0, 1, 2, 39}) {
            checks.dueRefused("prepend(" + v + ", 1) when full", Vectors::mixedFull, x -> x.prepend(v, 1), FULL);
        }
    }

    /** "LONG" */
    private void promise3Long() {
        checks.dueRefused("prepend to 80", Vectors::mixed, x -> x.prepend(1, 1), LONG);
        RelaxedRadixVector x = Vectors.withPushed(79);
        checks.due("prepend to 79", x.prepend(1, 1), 2);
        checks.due("prepend to 79 and 1", x.prepend(2, 1), LONG);
    }

    /** "TALL" */
    private void promise3Tall() {
        RelaxedRadixVector x = Vectors.after(Vectors.TALL_BY_PREPEND);
        int v = newest(x);
        checks.dueShape("a version full at its start", x, v, "4|4411|4141431413|44412421444414441242144441");
        checks.due("append to it", x.append(v, 1), v + 1);
        checks.dueRefused("prepend to it", after(Vectors.TALL_BY_PREPEND), y -> y.prepend(newest(y), 1), TALL);
    }

    /** An element is any int: the least and the greatest are kept as they are. */
    private void promise3LeastAndGreatestElement() {
        RelaxedRadixVector x = Vectors.withPushed(4);
        checks.due("the least", x.get(x.prepend(1, LEAST), 0), LEAST);
        checks.due("the greatest", x.get(x.prepend(1, GREATEST), 0), GREATEST);
    }

    /** "Makes a frozen version (also if it is that already)" */
    private void promise4AlsoIfItIsThatAlready() {
        RelaxedRadixVector x = Vectors.mixed();
        checks.due("set(3, 2, 5)", x.set(3, 2, 5), 6);
        checks.due("set(3, 2, 5) again", x.set(3, 2, 5), 7);
        checks.due("versions()", x.versions(), 8);
        checks.due("compare(3, 7)", x.compare(3, 7), 0);
        checks.dueShape("version 7", x, 7, "3|144");
        checks.due("freeze(7)", x.freeze(7), false);
    }

    /** "x as the element at place i", where i is "0 .. its size - 1" */
    private void promise4FirstAndLastPlace() {
        RelaxedRadixVector x = Vectors.mixed();
        checks.dueElements("set(3, 0, 50)", x, x.set(3, 0, 50), "50 4 5 6 7 8 9 10 11");
        checks.dueShape("set(3, 0, 50)", x, newest(x), "3|144");
        checks.dueElements("set(3, 8, 50)", x, x.set(3, 8, 50), "3 4 5 6 7 8 9 10 50");
        checks.dueShape("set(3, 8, 50)", x, newest(x), "3|144");
        checks.due("set(1, 79, 1)", x.get(x.set(1, 79, LEAST), 79), LEAST);
    }

    /** "NONE (v is no frozen version" */
    private void promise4NoFrozenVersion() {
        for (int v : NO_FROZEN) {
            checks.dueRefused("set(" + v + ", 0, 1)", Vectors::mixed, x -> x.set(v, 0, 1), NONE);
        }
    }

    /** "or i is not 0 .. its size - 1)" */
    private void promise4NoPlace() {
        for (int i : new int[] {-1, 9, 10, 80, LEAST, GREATEST}) {
            checks.dueRefused("set(2, " + i + ", 1)", Vectors::mixed, x -> x.set(2, i, 1), NONE);
        }
        checks.dueRefused("set(1, 80, 1)", Vectors::mixed, x -> x.set(1, 80, 1), NONE);
        checks.dueRefused("set(0, 0, 1), no place at all", Vectors::mixed, x -> x.set(0, 0, 1), NONE);
    }

    /** "FULL" */
    private void promise4Full() {
        checks.dueRefused("set(2, 8, 1) when full", Vectors::mixedFull, x -> x.set(2, 8, 1), FULL);
        checks.dueRefused("set(2, 8, 8) when full", Vectors::mixedFull, x -> x.set(2, 8, 8), FULL);
    }

    /** Neither LONG nor TALL is named: the longest and highest trees may be set. */
    private void promise4NeitherLongNorTall() {
        RelaxedRadixVector x = Vectors.withPushed(80);
        checks.due("set in 80", x.set(1, 40, 1), 2);
        RelaxedRadixVector tall = Vectors.after(Vectors.TALL_BY_APPEND);
        int v = newest(tall);
        checks.due("set in a tree full at its end", tall.set(v, tall.size(v) - 1, 1), v + 1);
        checks.due("its height", tall.height(v + 1), 4);
    }

    /** "the frozen versions a and b (which may be the same) joined" */
    private void promise5TheSame() {
        RelaxedRadixVector x = Vectors.mixed();
        checks.dueElements("concat(3, 3)", x, x.concat(3, 3), "3 4 5 6 7 8 9 10 11 3 4 5 6 7 8 9 10 11");
        checks.dueElements("version 3 after it", x, 3, "3 4 5 6 7 8 9 10 11");
        checks.dueEmpty("concat(0, 0)", x, x.concat(0, 0));
    }

    /** "NONE (a or b is no frozen version)" */
    private void promise5NoFrozenVersion() {
        for (int v : NO_FROZEN) {
            checks.dueRefused("concat(" + v + ", 2)", Vectors::mixed, x -> x.concat(v, 2), NONE);
            checks.dueRefused("concat(2, " + v + ")", Vectors::mixed, x -> x.concat(2, v), NONE);
            checks.dueRefused("concat(" + v + ", " + v + ")", Vectors::mixed, x -> x.concat(v, v), NONE);
        }
        checks.dueRefused("concat(0, 5), nothing and nothing open", Vectors::mixed, x -> x.concat(0, 5), NONE);
    }

    /** "FULL" */
    private void promise5Full() {
        checks.dueRefused("concat(2, 3) when full", Vectors::mixedFull, x -> x.concat(2, 3), FULL);
        checks.dueRefused("concat(0, 0) when full", Vectors::mixedFull, x -> x.concat(0, 0), FULL);
    }

    /** "LONG" */
    private void promise5Long() {
        checks.dueRefused("concat of 80 and 80", Vectors::mixed, x -> x.concat(1, 1), LONG);
        checks.dueRefused("concat of 80 and 9", Vectors::mixed, x -> x.concat(1, 2), LONG);
        checks.dueRefused("concat of 9 and 80", Vectors::mixed, x -> x.concat(2, 1), LONG);
        RelaxedRadixVector x = Vectors.withPushed(80);
        int less = x.slice(1, 0, 40);
        int more = x.slice(1, 0, 41);
        checks.due("concat of 40 and 41", x.concat(less, more), LONG);
        checks.due("concat of 41 and 40", x.concat(more, less), LONG);
        checks.due("concat of 40 and 40", x.concat(less, less), 4);
        checks.due("concat of 80 and nothing", x.concat(1, 0), 5);
        checks.due("concat of nothing and 80", x.concat(0, 1), 6);
    }

    /** "TALL" */
    private void promise5Tall() {
        RelaxedRadixVector x = Vectors.after(Vectors.TALL_BY_DOUBLE);
        checks.dueShape("a loose version", x, newest(x), "3|421|1414312|1412421144214144");
        checks.dueRefused("concat of it with itself", after(Vectors.TALL_BY_DOUBLE),
            y -> y.concat(newest(y), newest(y)), TALL);
    }

    /** "(none, if from is to)" */
    private void promise6NoneIfFromIsTo() {
        RelaxedRadixVector x = Vectors.mixed();
        for (int place = 0; place <= 9; place++) {
            int v = x.slice(2, place, place);
            checks.due("slice from and to " + place, v, 6 + place);
            checks.dueEmpty("slice from and to " + place, x, v);
        }
        checks.dueEmpty("slice(1, 80, 80)", x, x.slice(1, 80, 80));
        checks.dueEmpty("slice(0, 0, 0)", x, x.slice(0, 0, 0));
    }

    /** "cut to the places from .. to - 1" */
    private void promise6FromTheStartAndToTheEnd() {
        RelaxedRadixVector x = Vectors.mixed();
        checks.dueElements("slice(2, 0, 9)", x, x.slice(2, 0, 9), "0 1 2 3 4 5 6 7 8");
        checks.dueShape("slice(2, 0, 9)", x, newest(x), "3|441");
        checks.dueElements("slice(2, 0, 1)", x, x.slice(2, 0, 1), "0");
        checks.dueElements("slice(2, 8, 9)", x, x.slice(2, 8, 9), "8");
        checks.dueElements("slice(2, 1, 9)", x, x.slice(2, 1, 9), "1 2 3 4 5 6 7 8");
        checks.dueElements("slice(2, 0, 8)", x, x.slice(2, 0, 8), "0 1 2 3 4 5 6 7");
        checks.dueShape("slice(3, 0, 9), loose as before", x, x.slice(3, 0, 9), "3|144");
    }

    /** "NONE (v is no frozen version" */
    private void promise6NoFrozenVersion() {
        for (int v : NO_FROZEN) {
            checks.dueRefused("slice(" + v + ", 0, 0)", Vectors::mixed, x -> x.slice(v, 0, 0), NONE);
        }
        checks.dueRefused("slice(4, 2, 5), open", Vectors::mixed, x -> x.slice(4, 2, 5), NONE);
    }

    /** "or not 0 <= from <= to <= its size)" */
    private void promise6NoRange() {
        int[][] ranges = {{-1, 0}, {-1, -1}, {-1, 9}, {1, 0}, {9, 8}, {0, 10}, {9, 10}, {10, 10}, {10, 9}, {80, 80},
            {LEAST, 0}, {LEAST, LEAST}, {LEAST, GREATEST}, {0, GREATEST}, {GREATEST, GREATEST}, {GREATEST, 0},
            {0, LEAST}, {GREATEST, LEAST}};
        for (int[] range : ranges) {
            checks.dueRefused("slice(2, " + range[0] + ", " + range[1] + ")", Vectors::mixed,
                x -> x.slice(2, range[0], range[1]), NONE);
        }
        checks.dueRefused("slice(0, 0, 1)", Vectors::mixed, x -> x.slice(0, 0, 1), NONE);
        checks.dueRefused("slice(0, 1, 1)", Vectors::mixed, x -> x.slice(0, 1, 1), NONE);
        checks.dueRefused("slice(1, 0, 81)", Vectors::mixed, x -> x.slice(1, 0, 81), NONE);
        checks.dueRefused("slice(1, 81, 81)", Vectors::mixed, x -> x.slice(1, 81, 81), NONE);
    }

    /** "FULL" */
    private void promise6Full() {
        checks.dueRefused("slice(2, 0, 9) when full", Vectors::mixedFull, x -> x.slice(2, 0, 9), FULL);
        checks.dueRefused("slice(0, 0, 0) when full", Vectors::mixedFull, x -> x.slice(0, 0, 0), FULL);
    }

    /** "cut to its places before i, with x added at the end": x alone, if i is 0. */
    private void promise7AtTheStart() {
        RelaxedRadixVector x = Vectors.mixed();
        checks.dueElements("insertAt(0, 0, 50)", x, x.insertAt(0, 0, 50), "50");
        checks.dueShape("insertAt(0, 0, 50)", x, newest(x), "1");
        checks.dueElements("insertAt(2, 0, 50)", x, x.insertAt(2, 0, 50), "50 0 1 2 3 4 5 6 7 8");
        checks.dueShape("insertAt(2, 0, 50)", x, newest(x), "4|1441");
        checks.dueShape("insertAt(3, 0, 50), no room in the leaf used", x, x.insertAt(3, 0, 50), "4|1144");
    }

    /** "joined with v cut to its places from i on": with nothing, if i is its size. */
    private void promise7AtTheEnd() {
        RelaxedRadixVector x = Vectors.mixed();
        checks.dueElements("insertAt(2, 9, 50)", x, x.insertAt(2, 9, 50), "0 1 2 3 4 5 6 7 8 50");
        checks.dueShape("insertAt(2, 9, 50)", x, newest(x), "3|442");
        checks.dueElements("insertAt(2, 8, 50)", x, x.insertAt(2, 8, 50), "0 1 2 3 4 5 6 7 50 8");
        checks.dueShape("insertAt(2, 8, 50)", x, newest(x), "4|4411");
        checks.dueElements("insertAt(2, 9, the least)", x, x.insertAt(2, 9, LEAST), "0 1 2 3 4 5 6 7 8 -2147483648");
    }

    /** "NONE (v is no frozen version" */
    private void promise7NoFrozenVersion() {
        for (int v : NO_FROZEN) {
            checks.dueRefused("insertAt(" + v + ", 0, 1)", Vectors::mixed, x -> x.insertAt(v, 0, 1), NONE);
        }
    }

    /** "or i is not 0 .. its size)" */
    private void promise7NoPlace() {
        for (int i : new int[] {-1, 10, 11, 80, LEAST, GREATEST}) {
            checks.dueRefused("insertAt(2, " + i + ", 1)", Vectors::mixed, x -> x.insertAt(2, i, 1), NONE);
        }
        checks.dueRefused("insertAt(0, 1, 1)", Vectors::mixed, x -> x.insertAt(0, 1, 1), NONE);
        checks.dueRefused("insertAt(0, -1, 1)", Vectors::mixed, x -> x.insertAt(0, -1, 1), NONE);
        checks.dueRefused("insertAt(1, 81, 1)", Vectors::mixed, x -> x.insertAt(1, 81, 1), NONE);
    }

    /** "FULL" */
    private void promise7Full() {
        checks.dueRefused("insertAt(2, 9, 1) when full", Vectors::mixedFull, x -> x.insertAt(2, 9, 1), FULL);
        checks.dueRefused("insertAt(0, 0, 1) when full", Vectors::mixedFull, x -> x.insertAt(0, 0, 1), FULL);
    }

    /** "LONG" */
    private void promise7Long() {
        for (int i : new int[] {0, 40, 79, 80}) {
            checks.dueRefused("insertAt(1, " + i + ", 1)", Vectors::mixed, x -> x.insertAt(1, i, 1), LONG);
        }
        RelaxedRadixVector x = Vectors.withPushed(79);
        checks.due("insertAt the end of 79", x.insertAt(1, 79, 1), 2);
        checks.due("insertAt the start of 79", x.insertAt(1, 0, 1), 3);
        checks.due("insertAt the end of 80", x.insertAt(2, 80, 1), LONG);
    }

    /** "TALL" */
    private void promise7Tall() {
        RelaxedRadixVector x = Vectors.after(Vectors.TALL_BY_INSERT_AT_43);
        int v = newest(x);
        checks.dueShape("a loose version", x, v, "4|4431|144411411111|343444444444132414222213");
        checks.due("append to it", x.append(v, 1), v + 1);
        checks.dueRefused("insertAt(v, 43, 1)", after(Vectors.TALL_BY_INSERT_AT_43),
            y -> y.insertAt(newest(y), 43, 1), TALL);
        checks.dueRefused("insertAt the end of a version full there", after(Vectors.TALL_BY_APPEND),
            y -> y.insertAt(newest(y), y.size(newest(y)), 1), TALL);
    }

    /** "cut to its places before i, joined with v cut to its places from i + 1 on" */
    private void promise8FirstAndLastPlace() {
        RelaxedRadixVector x = Vectors.mixed();
        checks.dueElements("removeAt(2, 0)", x, x.removeAt(2, 0), "1 2 3 4 5 6 7 8");
        checks.dueShape("removeAt(2, 0)", x, newest(x), "3|341");
        checks.dueElements("removeAt(2, 8)", x, x.removeAt(2, 8), "0 1 2 3 4 5 6 7");
        checks.dueShape("removeAt(2, 8)", x, newest(x), "2|44");
        checks.dueShape("removeAt(3, 0), a leaf goes", x, x.removeAt(3, 0), "2|44");
        RelaxedRadixVector high = Vectors.withPushed(65);
        checks.dueShape("removeAt(1, 64), the root goes", high, high.removeAt(1, 64), "4|4444|4444444444444444");
    }

    /** Both parts are empty, and so is what they give. */
    private void promise8TheOnlyElement() {
        RelaxedRadixVector x = new RelaxedRadixVector();
        x.append(0, 5);
        checks.due("removeAt(1, 0)", x.removeAt(1, 0), 2);
        checks.dueEmpty("removeAt(1, 0)", x, 2);
        checks.due("removeAt(2, 0)", x.removeAt(2, 0), NONE);
        checks.due("size(1)", x.size(1), 1);
    }

    /** "NONE (v is no frozen version" */
    private void promise8NoFrozenVersion() {
        for (int v : NO_FROZEN) {
            checks.dueRefused("removeAt(" + v + ", 0)", Vectors::mixed, x -> x.removeAt(v, 0), NONE);
        }
    }

    /** "or i is not 0 .. its size - 1)" */
    private void promise8NoPlace() {
        for (int i : new int[] {-1, 9, 10, 80, LEAST, GREATEST}) {
            checks.dueRefused("removeAt(2, " + i + ")", Vectors::mixed, x -> x.removeAt(2, i), NONE);
        }
        checks.dueRefused("removeAt(0, 0), no place at all", Vectors::mixed, x -> x.removeAt(0, 0), NONE);
        checks.dueRefused("removeAt(1, 80)", Vectors::mixed, x -> x.removeAt(1, 80), NONE);
    }

    /** "FULL" */
    private void promise8Full() {
        checks.dueRefused("removeAt(2, 8) when full", Vectors::mixedFull, x -> x.removeAt(2, 8), FULL);
        checks.dueRefused("removeAt(39, 0) when full", Vectors::mixedFull, x -> x.removeAt(39, 0), FULL);
    }

    /** LONG is not named: 80 elements may be made fewer. */
    private void promise8NotLong() {
        RelaxedRadixVector x = Vectors.withPushed(80);
        checks.due("size of removeAt(1, 0)", x.size(x.removeAt(1, 0)), 79);
        checks.due("size of removeAt(1, 40)", x.size(x.removeAt(1, 40)), 79);
        checks.due("size of removeAt(1, 79)", x.size(x.removeAt(1, 79)), 79);
    }

    /** "TALL" */
    private void promise8Tall() {
        RelaxedRadixVector x = Vectors.after(Vectors.TALL_BY_REMOVE_AT_9);
        int v = newest(x);
        checks.dueShape("a loose version", x, v, "4|4233|441411141411|444444421222441244214444122");
        checks.due("removeAt(v, 0)", x.removeAt(v, 0), v + 1);
        checks.dueRefused("removeAt(v, 9)", after(Vectors.TALL_BY_REMOVE_AT_9), y -> y.removeAt(newest(y), 9), TALL);
    }
}
