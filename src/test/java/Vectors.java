/** What the tests do again and again with an object, by public calls alone. */
final class Vectors {
    /** Of no object, or of none with few versions: near to being a version, and far from it. */
    static final int[] NO_VERSIONS = {-1, 40, 41, 1000, Integer.MAX_VALUE, Integer.MIN_VALUE};

    /*
     * Edits of one version after another, each of the one before, that end in a version of height 4
     * of which the call in the name is refused as TALL. They were searched for, as they are rare.
     */
    static final String TALL_BY_APPEND =
        "push 76; insertAt 46; removeAt 9; insertAt 64; removeAt 21; insertAt 55; prepend";
    static final String TALL_BY_PREPEND =
        "push 41; removeAt 13; removeAt 21; double";
    static final String TALL_BY_DOUBLE =
        "push 40; insertAt 13; removeAt 15; prepend; insertAt 32; removeAt 27; removeAt 6";
    static final String TALL_BY_INSERT_AT_43 =
        "push 67; removeAt 62; insertAt 57; insertAt 59; removeAt 7; prepend; prepend; insertAt 52;"
        + " insertAt 47; prepend; insertAt 45";
    static final String TALL_BY_REMOVE_AT_9 =
        "push 80; removeAt 30; append; removeAt 44; insertAt 32; removeAt 57; append; removeAt 75;"
        + " insertAt 34";

    private Vectors() {
    }

    /** A new object whose version 1 is frozen and has the elements 0 .. n - 1. */
    static RelaxedRadixVector withPushed(int n) {
        RelaxedRadixVector x = new RelaxedRadixVector();
        x.thaw(0);
        for (int i = 0; i < n; i++) {
            x.push(1, i);
        }
        x.freeze(1);
        return x;
    }

    /** A new object that has been through the edits; its newest version is the last one made. */
    static RelaxedRadixVector after(String edits) {
        RelaxedRadixVector x = null;
        for (String edit : edits.split("; *")) {
            String[] words = edit.split(" ");
            int number = words.length > 1 ? Integer.parseInt(words[1]) : 0;
            if (words[0].equals("push")) {
                x = withPushed(number);
            } else {
                edit(x, words[0], number);
            }
        }
        return x;
    }

    private static void edit(RelaxedRadixVector x, String name, int i) {
        int v = newest(x);
        int made = switch (name) {
            case "append" -> x.append(v, 7);
            case "prepend" -> x.prepend(v, 7);
            case "insertAt" -> x.insertAt(v, i, 7);
            case "removeAt" -> x.removeAt(v, i);
            case "double" -> x.concat(v, v);
            default -> throw new IllegalArgumentException(name);
        };
        if (made != v + 1) {
            throw new IllegalStateException(name + " " + i + " answered " + made);
        }
    }

    static int newest(RelaxedRadixVector x) {
        return x.versions() - 1;
    }

    /** Makes versions until there are 40. */
    static void fillUp(RelaxedRadixVector x) {
        while (x.versions() < 40) {
            if (x.append(0, 1) < 0) {
                throw new IllegalStateException("there is no room for 40 versions");
            }
        }
    }

    /** The slot counts of the nodes, level by level from the root down: "2|41|44441". */
    static String shape(RelaxedRadixVector x, int v) {
        StringBuilder text = new StringBuilder();
        for (int level = x.height(v); level >= 1; level--) {
            for (int k = 0; x.row(v, level, k) != RelaxedRadixVector.NONE; k++) {
                text.append(x.row(v, level, k));
            }
            text.append(level > 1 ? "|" : "");
        }
        return text.toString();
    }

    static String elements(RelaxedRadixVector x, int v) {
        StringBuilder text = new StringBuilder();
        for (int i = 0; i < x.size(v); i++) {
            text.append(i > 0 ? " " : "").append(x.get(v, i));
        }
        return text.toString();
    }
}
