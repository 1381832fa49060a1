/** What the tests do again and again with an object, by public calls alone. */
final class Vectors {
    /*
     * Edits of one version after another, each of the one before, that end in a version of height 4
     * of which the call in the name is refused as TALL. They were searched for, as they are rare.
     */
    static final String TALL_BY_APPEND =
        "push 76; insertAt 46; removeAt 9; insertAt 64; removeAt 21; insertAt 55; prepend";
    static final String TALL_BY_PREPEND =
        "push 41; removeAt 13; removeAt 21; double";
    static final String TALL_BY_DOUBLE =
        "push 40; insertAt 13; removeAt 15; prepend; insertAt 32; removeAt 27; removeAt 6";
    static final String TALL_BY_INSERT_AT_43 =
        "push 67; removeAt 62; insertAt 57; insertAt 59; removeAt 7; prepend; prepend; insertAt 52;"
        + " insertAt 47; prepend; insertAt 45";
    static final String TALL_BY_REMOVE_AT_9 =
        "push 80; removeAt 30; append; removeAt 44; insertAt 32; removeAt 57; append; removeAt 75;"
        + " insertAt 34";

    private Vectors() {
    }

    /** A new object whose version 1 is frozen and has the elements 0 .. n - 1. */
    static RelaxedRadixVector withPushed(int n) {
        RelaxedRadixVector x = new RelaxedRadixVector();
        x.thaw(0);
        for (int i = 0; i < n; i++) {
            x.push(1, i);
        }
        x.freeze(1);
        return x;
    }

    /** A new object that has been through the edits; its newest version is the last one made. */
    static RelaxedRadixVector after(String edits) {
        RelaxedRadixVector x = null;
        for (String edit : edits.split("; *")) {
            String[] words = edit.split(" ");
            int number = words.length > 1 ? Integer.parseInt(words[1]) : 0;
            if (words[0].equals("push")) {
                x = withPushed(number);
            } else {
                edit(x, words[0], number);
            }
        }
        return x;
    }

    private static void edit(RelaxedRadixVector x, String name, int i) {
        int v = newest(x);
        int made = switch (name) {
            case "append" -> x.append(v, 7);
            case "prepend" -> x.prepend(v, 7);
            case "insertAt" -> x.insertAt(v, i, 7);
            case "removeAt" -> x.removeAt(v, i);
            case "double" -> x.concat(v, v);
            default -> throw new IllegalArgumentException(name);
        };
        if (made != v + 1) {
            throw new IllegalStateException(name + " " + i + " answered " + made);
        }
    }

    /**
     * Version 1 has 0 .. 79; version 2 has 0 .. 8, in leaves of 4, 4 and 1; version 3 has 3 .. 11,
     * in leaves of 1, 4 and 4; version 4 is open and like version 2; version 5 is open and empty.
     */
    static RelaxedRadixVector mixed() {
        RelaxedRadixVector x = withPushed(80);
        x.slice(1, 0, 9);
        x.slice(1, 3, 12);
        x.thaw(2);
        x.thaw(0);
        return x;
    }

    /** The same, with as many versions more as there may be. */
    static RelaxedRadixVector mixedFull() {
        RelaxedRadixVector x = mixed();
        fillUp(x);
        return x;
    }

    static int newest(RelaxedRadixVector x) {
        return x.versions() - 1;
    }

    /** Makes versions until there are 40. */
    static void fillUp(RelaxedRadixVector x) {
        while (x.versions() < 40) {
            if (x.append(0, 1) < 0) {
                throw new IllegalStateException("there is no room for 40 versions");
            }
        }
    }

    /**
     * What tells a version from another one, of every version, and how the object goes on: so it is
     * asked last, as it freezes the open versions and makes one more.
     */
    static String seen(RelaxedRadixVector x) {
        StringBuilder text = new StringBuilder();
        int count = x.versions();
        for (int v = 0; v < count; v++) {
            text.append(x.size(v)).append(' ').append(x.hash(v)).append(' ').append(x.height(v)).append(' ');
            text.append(x.nodes(v)).append(x.freeze(v) ? " open; " : " frozen; ");
        }
        return text.append(x.append(0, 1)).toString();
    }

    /** The slot counts of the nodes, level by level from the root down: "2|41|44441". */
    static String shape(RelaxedRadixVector x, int v) {
        StringBuilder text = new StringBuilder();
        for (int level = x.height(v); level >= 1; level--) {
            int slots = x.row(v, level, 0);
            for (int k = 1; slots != RelaxedRadixVector.NONE; k++) {
                text.append(slots);
                slots = x.row(v, level, k);
            }
            text.append(level > 1 ? "|" : "");
        }
        return text.toString();
    }

    static String elements(RelaxedRadixVector x, int v) {
        StringBuilder text = new StringBuilder();
        int size = x.size(v);
        for (int i = 0; i < size; i++) {
            text.append(i > 0 ? " " : "").append(x.get(v, i));
        }
        return text.toString();
    }
}
