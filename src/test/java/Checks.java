import java.util.function.Supplier;
import java.util.function.ToLongFunction;

/** Counts the answers that are not the ones that are due, and prints them. */
final class Checks {
    private int asked = 0;
    private int wrong = 0;

    void due(String call, long got, long want) {
        asked++;
        if (got != want) {
            tellWrong(call, "" + got, "" + want);
        }
    }

    void due(String call, boolean got, boolean want) {
        due(call, got ? 1L : 0L, want ? 1L : 0L);
    }

    void due(String what, String got, String want) {
        asked++;
        if (!got.equals(want)) {
            tellWrong(what, got, want);
        }
    }

    void dueShape(String what, RelaxedRadixVector x, int v, String want) {
        due("shape of " + what, Vectors.shape(x, v), want);
    }

    void dueElements(String what, RelaxedRadixVector x, int v, String want) {
        due("elements of " + what, Vectors.elements(x, v), want);
    }

    /** No elements, no nodes, and no level. */
    void dueEmpty(String what, RelaxedRadixVector x, int v) {
        due("size of " + what, x.size(v), 0);
        due("height of " + what, x.height(v), 0);
        due("nodes of " + what, x.nodes(v), 0);
        due("row of " + what, x.row(v, 1, 0), RelaxedRadixVector.NONE);
        due("hash of " + what, x.hash(v), 1);
    }

    /**
     * The call is answered so, and an object that has had it goes on like one that has not. The two
     * are made anew, as one object is not asked more than 512 times.
     */
    void dueRefused(String call, Supplier<RelaxedRadixVector> made, ToLongFunction<RelaxedRadixVector> asked,
            long want) {
        RelaxedRadixVector x = made.get();
        due(call, asked.applyAsLong(x), want);
        due("all that is seen after " + call, Vectors.seen(x), Vectors.seen(made.get()));
    }

    private void tellWrong(String call, String got, String want) {
        wrong++;
        System.out.println(call + " answered " + got + ", due is " + want);
    }

    boolean allAsDue() {
        return wrong == 0;
    }

    void finish() {
        System.out.println(asked + " answers, " + wrong + " not as due");
        if (wrong != 0) {
            System.exit(1);
        }
    }
}
