import java.util.function.Supplier;
import java.util.function.ToIntFunction;

/** The edges that the document's "Terms" name: one test for each sentence that names one. */
public final class EdgesOfTermsTest {
    private static final int NONE = RelaxedRadixVector.NONE;
    private static final int FULL = RelaxedRadixVector.FULL;
    private static final int LONG = RelaxedRadixVector.LONG;
    private static final int TALL = RelaxedRadixVector.TALL;

    private final Checks checks = new Checks();

    public static void main(String[] args) {
        EdgesOfTermsTest test = new EdgesOfTermsTest();
        test.anObjectIsUsedForUpTo512Calls();
        test.versionZeroIsThereFromTheBeginning();
        test.thereAreAtMost40Versions();
        test.aVersionGetsTheNextNumber();
        test.madeVersionsAreFrozenAndNeverChange();
        test.freezeIsForEver();
        test.oneVersionNeverShowsInAnother();
        test.aSequenceHasAtMost80Elements();
        test.theEmptySequenceHasNoNodes();
        test.aNodeHolds1To4Slots();
        test.addingToTheEmptySequence();
        test.addingAtTheEndGoesToTheLowestNodeWithRoom();
        test.addingAtTheEndSetsANewRoot();
        test.addingAtTheStartGoesToTheLowestNodeWithRoom();
        test.addingAtTheStartSetsANewRoot();
        test.cuttingDropsEmptyNodesAlone();
        test.cuttingLowersTheRoot();
        test.joiningWithTheEmptySequence();
        test.joiningGivesOneNodeOrTwo();
        test.meetingLeavesStayAsTheyAre();
        test.meetingOfLevelsThatDiffer();
        test.aRowOfFourAndOfFive();
        test.packingBeginsAboveTheBound();
        test.packingBeginsAtTheFirstNodeWithRoom();
        test.packingTakesTheLeastStretch();
        test.packingGoesOnUntilTheBound();
        test.packingOfUpperLevels();
        test.refusalsNoneFirst();
        test.refusalsFullBeforeLongAndTall();
        test.refusalsLongBeforeTall();
        test.aRefusedCallChangesNothing();
        test.fourLevelsAreNotTooTall();
        test.theResultAloneIsMeasured();
        test.checks.finish();
    }

    /** "An object is used for at most 512 calls": the last of them is answered like the first. */
    private void anObjectIsUsedForUpTo512Calls() {
        RelaxedRadixVector x = new RelaxedRadixVector();
        x.thaw(0);
        for (int n = 0; n < 80; n++) {
            x.push(1, n);
        }
        x.freeze(1);
        for (int v = 2; v < 39; v++) {
            x.insertAt(v - 1 == 1 ? 0 : v - 1, 0, v);
        }
        int done = 1 + 80 + 1 + 37;
        for (int call = done + 1; call <= 511; call++) {
            checks.due("call " + call, x.get(1, call % 80), call % 80);
        }
        checks.due("call 512", x.removeAt(1, 40), 39);
    }

    /** "version 0, the empty sequence, is there from the beginning" */
    private void versionZeroIsThereFromTheBeginning() {
        RelaxedRadixVector x = new RelaxedRadixVector();
        checks.dueEmpty("version 0", x, 0);
        checks.due("size(1)", x.size(1), NONE);
        checks.due("append(1, 5)", x.append(1, 5), NONE);
        checks.due("append(0, 5)", x.append(0, 5), 1);
    }

    /** "there are at most 40": by each call that makes one, number 39 is made and number 40 is not. */
    private void thereAreAtMost40Versions() {
        lastVersion("append", x -> x.append(2, 1));
        lastVersion("prepend", x -> x.prepend(2, 1));
        lastVersion("set", x -> x.set(2, 0, 1));
        lastVersion("concat", x -> x.concat(2, 3));
        lastVersion("slice", x -> x.slice(2, 1, 4));
        lastVersion("insertAt", x -> x.insertAt(2, 1, 1));
        lastVersion("removeAt", x -> x.removeAt(2, 1));
        lastVersion("thaw", x -> x.thaw(2));
    }

    private void lastVersion(String name, ToIntFunction<RelaxedRadixVector> call) {
        RelaxedRadixVector x = Vectors.mixed();
        while (x.versions() < 39) {
            x.append(0, 1);
        }
        checks.due(name + " with 39 versions", call.applyAsInt(x), 39);
        checks.due("size(39) after " + name, x.size(39) > 0, true);
        checks.due(name + " with 40 versions", call.applyAsInt(x), FULL);
        checks.due("versions() after " + name, x.versions(), 40);
        checks.due("size(40) after " + name, x.size(40), NONE);
    }

    /** "A call that makes a version gives it the next number": a refused one uses none up. */
    private void aVersionGetsTheNextNumber() {
        RelaxedRadixVector x = Vectors.mixed();
        checks.due("append too long", x.append(1, 1), LONG);
        checks.due("append(2, 1)", x.append(2, 1), 6);
        checks.due("removeAt no place", x.removeAt(2, 9), NONE);
        checks.due("thaw(2)", x.thaw(2), 7);
        checks.due("thaw of an open version", x.thaw(7), NONE);
        checks.due("slice(2, 3, 3)", x.slice(2, 3, 3), 8);
        checks.due("push(7, 1)", x.push(7, 1), true);
        checks.due("set(2, 0, 0)", x.set(2, 0, 0), 9);
        checks.due("size(10)", x.size(10), NONE);
    }

    /** "Version 0 and the versions made by append .. removeAt are frozen and never change" */
    private void madeVersionsAreFrozenAndNeverChange() {
        RelaxedRadixVector x = Vectors.withPushed(9);
        x.append(1, 1);
        x.prepend(1, 1);
        x.set(1, 0, 1);
        x.concat(1, 1);
        x.slice(1, 1, 8);
        x.insertAt(1, 4, 1);
        x.removeAt(1, 4);
        for (int v = 0; v <= 8; v++) {
            int hash = x.hash(v);
            checks.due("push(" + v + ", 9)", x.push(v, 9), false);
            checks.due("put(" + v + ", 0, 9)", x.put(v, 0, 9), false);
            checks.due("freeze(" + v + ")", x.freeze(v), false);
            checks.due("hash(" + v + ")", x.hash(v), hash);
        }
        checks.due("versions()", x.versions(), 9);
    }

    /** "until freeze makes it frozen for ever": thaw of it makes another one. */
    private void freezeIsForEver() {
        RelaxedRadixVector x = Vectors.mixed();
        checks.due("freeze(4)", x.freeze(4), true);
        checks.due("thaw(4)", x.thaw(4), 6);
        checks.due("push(6, 1)", x.push(6, 1), true);
        checks.due("put(6, 0, 7)", x.put(6, 0, 7), true);
        checks.due("push(4, 1)", x.push(4, 1), false);
        checks.due("put(4, 0, 7)", x.put(4, 0, 7), false);
        checks.due("freeze(4) again", x.freeze(4), false);
        checks.dueElements("version 4", x, 4, "0 1 2 3 4 5 6 7 8");
        checks.due("append(4, 1)", x.append(4, 1), 7);
    }

    /** "What happens to one version never shows in another." */
    private void oneVersionNeverShowsInAnother() {
        RelaxedRadixVector x = Vectors.withPushed(4);
        int doubled = x.concat(1, 1);
        int alone = x.concat(1, 0);
        int all = x.slice(1, 0, 4);
        int same = x.set(1, 0, 0);
        int open = x.thaw(1);
        int beside = x.thaw(1);
        x.put(open, 0, 50);
        x.push(open, 51);
        x.freeze(open);
        checks.dueElements("the one that was changed", x, open, "50 1 2 3 51");
        checks.dueShape("the one that was changed", x, open, "2|41");
        for (int v : new int[] {1, alone, all, same, beside}) {
            checks.dueElements("version " + v, x, v, "0 1 2 3");
            checks.dueShape("version " + v, x, v, "4");
        }
        checks.dueElements("the doubled one", x, doubled, "0 1 2 3 0 1 2 3");
        checks.due("the other is still open", x.push(beside, 9), true);
        checks.dueEmpty("version 0", x, 0);
    }

    /** "A sequence has at most 80 elements, at the places 0, 1, ..": each call may end at 80. */
    private void aSequenceHasAtMost80Elements() {
        RelaxedRadixVector x = Vectors.withPushed(80);
        checks.due("size(1)", x.size(1), 80);
        checks.due("get(1, 0)", x.get(1, 0), 0);
        checks.due("get(1, 79)", x.get(1, 79), 79);
        checks.due("get(1, 80)", x.get(1, 80), RelaxedRadixVector.OUT);
        int most = x.slice(1, 0, 79);
        int half = x.slice(1, 0, 40);
        int[] eighty = {x.append(most, 1), x.prepend(most, 1), x.insertAt(most, 0, 1), x.insertAt(most, 79, 1),
            x.insertAt(most, 40, 1), x.concat(half, half), x.concat(1, 0), x.concat(0, 1), x.set(1, 79, 1),
            x.slice(1, 0, 80), x.thaw(1)};
        for (int n = 0; n < eighty.length; n++) {
            checks.due("the number of way " + n + " to 80", eighty[n], half + 1 + n);
            checks.due("size by way " + n + " to 80", x.size(eighty[n]), 80);
        }
        int open = x.thaw(most);
        checks.due("push of the 80th", x.push(open, 1), true);
        checks.due("push of the 81st", x.push(open, 1), false);
        checks.due("append of the 81st", x.append(1, 1), LONG);
        checks.due("prepend of the 81st", x.prepend(1, 1), LONG);
        checks.due("insertAt of the 81st", x.insertAt(1, 40, 1), LONG);
        checks.due("concat of 79 and 40", x.concat(most, half), LONG);
    }

    /** "The empty sequence has no nodes and height 0.": whichever way it has come about. */
    private void theEmptySequenceHasNoNodes() {
        RelaxedRadixVector x = Vectors.withPushed(65);
        checks.dueEmpty("version 0", x, 0);
        checks.dueEmpty("concat(0, 0)", x, x.concat(0, 0));
        checks.dueEmpty("slice(0, 0, 0)", x, x.slice(0, 0, 0));
        for (int place : new int[] {0, 1, 64, 65}) {
            checks.dueEmpty("slice from and to " + place, x, x.slice(1, place, place));
        }
        checks.dueEmpty("the only element removed", x, x.removeAt(x.append(0, 1), 0));
        checks.dueEmpty("thaw(0)", x, x.thaw(0));
        checks.dueEmpty("thaw of nothing cut out", x, x.thaw(x.slice(1, 8, 8)));
        int open = x.thaw(0);
        x.freeze(open);
        checks.dueEmpty("an open one, frozen at once", x, open);
        checks.dueShape("append to nothing cut out", x, x.append(x.slice(1, 64, 64), 1), "1");
    }

    /** "a LEAF, holds 1 to 4 elements, a node of a level k > 1 holds 1 to 4 nodes of level k - 1" */
    private void aNodeHolds1To4Slots() {
        String[] loose = {Vectors.TALL_BY_APPEND, Vectors.TALL_BY_PREPEND, Vectors.TALL_BY_DOUBLE,
            Vectors.TALL_BY_INSERT_AT_43, Vectors.TALL_BY_REMOVE_AT_9};
        for (String edits : loose) {
            RelaxedRadixVector x = Vectors.after(edits);
            int v = Vectors.newest(x);
            int below = x.size(v);
            for (int level = 1; level <= x.height(v); level++) {
                below = dueLevel(x, v, level, below);
            }
            checks.due("nodes on the level of the root of: " + edits, below, 1);
        }
    }

    /** Answers the number of nodes of the level. */
    private int dueLevel(RelaxedRadixVector x, int v, int level, int below) {
        int count = 0;
        int slots = 0;
        for (int k = 0; x.row(v, level, k) != NONE; k++) {
            int held = x.row(v, level, k);
            checks.due("row(" + v + ", " + level + ", " + k + ") is 1 to 4", held >= 1 && held <= 4, true);
            slots += held;
            count++;
        }
        checks.due("slots of level " + level, slots, below);
        return count;
    }

    /** "The empty sequence becomes a leaf with x alone." */
    private void addingToTheEmptySequence() {
        RelaxedRadixVector x = new RelaxedRadixVector();
        int[] ways = {x.append(0, 7), x.prepend(0, 7), x.insertAt(0, 0, 7), x.thaw(0)};
        checks.due("push to an empty one", x.push(ways[3], 7), true);
        for (int v : ways) {
            checks.dueShape("7 alone", x, v, "1");
            checks.dueElements("7 alone", x, v, "7");
            checks.due("height of 7 alone", x.height(v), 1);
            checks.due("nodes of 7 alone", x.nodes(v), 1);
        }
    }

    /** "the lowest of these nodes that has fewer than 4 slots gets one slot more, at its end" */
    private void addingAtTheEndGoesToTheLowestNodeWithRoom() {
        RelaxedRadixVector x = Vectors.withPushed(80);
        appended(x, 1, "2");
        appended(x, 3, "4");
        appended(x, 5, "2|42");
        appended(x, 8, "3|441");
        appended(x, 15, "4|4444");
        appended(x, 20, "2|42|444441");
        appended(x, 31, "2|44|44444444");
        appended(x, 32, "3|441|444444441");
        appended(x, 63, "4|4444|4444444444444444");
        appended(x, 68, "2|41|44442|444444444444444441");
        checks.dueShape("append to leaves of 1 and 4", x, x.append(x.slice(1, 3, 8), 9), "3|141");
        checks.dueElements("append to leaves of 1 and 4", x, Vectors.newest(x), "3 4 5 6 7 9");
    }

    private void appended(RelaxedRadixVector x, int length, String want) {
        int v = x.append(x.slice(1, 0, length), 900);
        checks.dueShape("append to " + length, x, v, want);
        checks.due("the last element of it", x.get(v, length), 900);
    }

    /** "If all of them have 4 slots, a new root has two children: the old root, and a chain" */
    private void addingAtTheEndSetsANewRoot() {
        RelaxedRadixVector x = Vectors.withPushed(64);
        appended(x, 4, "2|41");
        appended(x, 16, "2|41|44441");
        appended(x, 64, "2|41|44441|44444444444444441");
        int full = x.append(x.slice(1, 15, 64), 1);
        checks.dueShape("append to a root that is full, the first child not", x, full,
            "2|41|14441|14444444444441");
    }

    /** "ADDING x AT THE START is the mirror image of that" */
    private void addingAtTheStartGoesToTheLowestNodeWithRoom() {
        RelaxedRadixVector x = Vectors.withPushed(64);
        prepended(x, 1, "2");
        prepended(x, 3, "4");
        prepended(x, 5, "2|24");
        prepended(x, 8, "3|144");
        prepended(x, 15, "4|4444");
        prepended(x, 20, "2|24|144444");
        prepended(x, 31, "2|44|44444444");
        prepended(x, 32, "3|144|144444444");
        prepended(x, 63, "4|4444|4444444444444444");
        checks.dueShape("prepend to leaves of 4 and 1", x, x.prepend(x.slice(1, 0, 5), 9), "3|141");
        checks.dueElements("prepend to leaves of 4 and 1", x, Vectors.newest(x), "9 0 1 2 3 4");
    }

    private void prepended(RelaxedRadixVector x, int length, String want) {
        int v = x.prepend(x.slice(1, 64 - length, 64), 900);
        checks.dueShape("prepend to " + length, x, v, want);
        checks.due("the first element of it", x.get(v, 0), 900);
        checks.due("the last element of it", x.get(v, length), 63);
    }

    /** ".. and the chain as the first child of a new root" */
    private void addingAtTheStartSetsANewRoot() {
        RelaxedRadixVector x = Vectors.withPushed(64);
        prepended(x, 4, "2|14");
        prepended(x, 16, "2|14|14444");
        prepended(x, 64, "2|14|14444|14444444444444444");
        int full = x.prepend(x.slice(1, 0, 49), 1);
        checks.dueShape("prepend to a root that is full, the last child not", x, full,
            "2|14|14441|14444444444441");
    }

    /** "every node that has lost all its slots goes, too; the other nodes keep what they have left" */
    private void cuttingDropsEmptyNodesAlone() {
        RelaxedRadixVector x = Vectors.withPushed(80);
        checks.dueShape("slice(1, 3, 13)", x, x.slice(1, 3, 13), "4|1441");
        checks.dueShape("slice(1, 4, 12)", x, x.slice(1, 4, 12), "2|44");
        checks.dueShape("slice(1, 3, 5)", x, x.slice(1, 3, 5), "2|11");
        checks.dueShape("slice(1, 15, 33)", x, x.slice(1, 15, 33), "3|141|144441");
        checks.dueShape("slice(1, 16, 65)", x, x.slice(1, 16, 65), "2|31|4441|4444444444441");
        checks.dueShape("slice(1, 1, 80)", x, x.slice(1, 1, 80), "2|41|44444|34444444444444444444");
        checks.dueShape("slice(1, 0, 79)", x, x.slice(1, 0, 79), "2|41|44444|44444444444444444443");
    }

    /** "as long as the root is above level 1 and has one slot alone, its child is the root instead" */
    private void cuttingLowersTheRoot() {
        RelaxedRadixVector x = Vectors.withPushed(80);
        checks.dueShape("slice(1, 0, 64), one level lower", x, x.slice(1, 0, 64), "4|4444|4444444444444444");
        checks.dueShape("slice(1, 64, 80), two levels lower", x, x.slice(1, 64, 80), "4|4444");
        checks.dueShape("slice(1, 64, 68), three levels lower", x, x.slice(1, 64, 68), "4");
        checks.dueShape("slice(1, 79, 80), a leaf with one slot", x, x.slice(1, 79, 80), "1");
        checks.dueShape("slice(1, 0, 1), a leaf with one slot", x, x.slice(1, 0, 1), "1");
        checks.dueShape("slice(1, 63, 65), one slot alone below the root", x, x.slice(1, 63, 65), "2|11|11|11");
    }

    /** "If one of them is empty, the result is the other one." */
    private void joiningWithTheEmptySequence() {
        RelaxedRadixVector x = Vectors.withPushed(40);
        int loose = x.slice(1, 3, 23);
        checks.dueShape("a loose version", x, loose, "2|42|144443");
        checks.dueShape("nothing and it", x, x.concat(0, loose), "2|42|144443");
        checks.due("compare(nothing and it, it)", x.compare(Vectors.newest(x), loose), 0);
        checks.dueShape("it and nothing", x, x.concat(loose, 0), "2|42|144443");
        checks.due("compare(it and nothing, it)", x.compare(Vectors.newest(x), loose), 0);
        checks.dueEmpty("nothing and nothing", x, x.concat(0, 0));
        checks.dueShape("removeAt the start, nothing before", x, x.removeAt(loose, 0), "2|32|44443");
        checks.dueShape("removeAt the end, nothing behind", x, x.removeAt(loose, 19), "2|42|144442");
        checks.dueShape("insertAt the end, nothing behind", x, x.insertAt(loose, 20, 1), "2|42|144444");
    }

    /** "if that gives one node, this is the root; if it gives two, a new root has these" */
    private void joiningGivesOneNodeOrTwo() {
        RelaxedRadixVector x = Vectors.withPushed(64);
        int two = x.slice(1, 0, 8);
        int three = x.slice(1, 0, 12);
        checks.dueShape("2 and 2 leaves", x, x.concat(two, two), "4|4444");
        checks.dueShape("2 and 3 leaves", x, x.concat(two, three), "2|41|44444");
        int half = x.slice(1, 0, 32);
        checks.dueShape("2 and 2 nodes of level 2", x, x.concat(half, half), "4|4444|4444444444444444");
        int more = x.slice(1, 0, 48);
        checks.dueShape("2 and 3 nodes of level 2", x, x.concat(half, more),
            "2|41|44444|44444444444444444444");
    }

    /** "If i = j = 1: it gives a, b.": leaves are not packed by themselves, however small. */
    private void meetingLeavesStayAsTheyAre() {
        for (int left = 1; left <= 4; left++) {
            RelaxedRadixVector x = Vectors.withPushed(4);
            for (int right = 1; right <= 4; right++) {
                int v = x.concat(x.slice(1, 0, left), x.slice(1, 4 - right, 4));
                checks.dueShape("leaves of " + left + " and " + right, x, v, "2|" + left + right);
            }
        }
    }

    /** "a' is the last child of a if i = k, and a itself if i < k; b' is .. b itself if j < k" */
    private void meetingOfLevelsThatDiffer() {
        RelaxedRadixVector x = Vectors.withPushed(65);
        int one = x.append(0, 9);
        int two = x.slice(1, 3, 5);
        checks.dueShape("1 and 65", x, x.concat(one, 1), "3|411|414441|144444444444444441");
        checks.due("its first element", x.get(Vectors.newest(x), 0), 9);
        checks.dueShape("65 and 1", x, x.concat(1, one), "2|41|44442|444444444444444411");
        checks.due("its last element", x.get(Vectors.newest(x), 65), 9);
        checks.dueShape("a tree of level 2 and 65", x, x.concat(two, 1), "3|411|424441|1144444444444444441");
        checks.dueShape("65 and a tree of level 2", x, x.concat(1, two), "2|41|44442|444444444444444421");
        int twenty = x.slice(1, 0, 20);
        checks.dueShape("a leaf and a tree of level 3", x, x.concat(one, twenty), "3|411|144444");
        checks.dueShape("a tree of level 3 and a leaf", x, x.concat(twenty, one), "2|42|444441");
    }

    /** "its first four nodes (all, if there are fewer) .., and those behind them, if any, of a second one" */
    private void aRowOfFourAndOfFive() {
        RelaxedRadixVector x = Vectors.withPushed(16);
        String[] due = {"2|44", "3|444", "4|4444", "2|41|44444", "2|42|444444", "2|43|4444444", "2|44|44444444"};
        for (int leaves = 2; leaves <= 8; leaves++) {
            int left = leaves / 2;
            int v = x.concat(x.slice(1, 0, 4 * left), x.slice(1, 0, 4 * (leaves - left)));
            checks.dueShape(leaves + " leaves in a row", x, v, due[leaves - 2]);
        }
    }

    /** "as long as n > (s + 3) / 4 + 1 (the division rounds down)": at the bound, and on both sides. */
    private void packingBeginsAboveTheBound() {
        RelaxedRadixVector x = Vectors.withPushed(16);
        int two = x.slice(1, 3, 5);
        String[] three = {"2|21", "2|22", "3|113", "3|114"};
        for (int last = 1; last <= 4; last++) {
            checks.dueShape("leaves of 1, 1 and " + last, x, x.concat(two, x.slice(1, 0, last)), three[last - 1]);
        }
        int loose = x.concat(two, x.slice(1, 0, 3));
        String[] four = {"3|231", "3|232", "3|233", "4|1134"};
        for (int last = 1; last <= 4; last++) {
            checks.dueShape("leaves of 1, 1, 3 and " + last, x, x.concat(loose, x.slice(1, 0, last)), four[last - 1]);
        }
    }

    /** "let i be the place in the row (from 0) of the first node with fewer than 4 slots" */
    private void packingBeginsAtTheFirstNodeWithRoom() {
        RelaxedRadixVector x = Vectors.withPushed(16);
        int one = x.append(0, 50);
        int five = x.slice(1, 0, 5);
        int six = x.concat(five, one);
        checks.dueShape("leaves of 4, 1 and 1", x, six, "3|411");
        checks.dueShape("leaves of 4, 1, 1 and 2", x, x.concat(six, x.slice(1, 0, 2)), "3|422");
        checks.dueElements("leaves of 4, 1, 1 and 2", x, Vectors.newest(x), "0 1 2 3 4 50 0 1");
        int ten = x.concat(x.slice(1, 0, 9), one);
        checks.dueShape("leaves of 4, 4, 1 and 1", x, ten, "4|4411");
        checks.dueShape("leaves of 4, 4, 1, 1 and 2", x, x.concat(ten, x.slice(1, 0, 2)), "4|4422");
    }

    /** "j the least place > i such that the nodes .. have at most 4 * (j - i) slots together" */
    private void packingTakesTheLeastStretch() {
        RelaxedRadixVector x = Vectors.withPushed(16);
        int one = x.append(0, 50);
        int three = x.slice(1, 0, 3);
        int six = x.concat(three, x.slice(1, 4, 7));
        int seven = x.concat(six, one);
        checks.dueShape("leaves of 3, 3 and 1", x, seven, "3|331");
        checks.dueShape("leaves of 3, 3, 1 and 1", x, x.concat(seven, one), "3|431");
        checks.dueElements("leaves of 3, 3, 1 and 1", x, Vectors.newest(x), "0 1 2 4 5 6 50 50");
        int five = x.concat(x.concat(one, three), one);
        checks.dueShape("leaves of 1, 3 and 1", x, five, "3|131");
        checks.dueShape("leaves of 1, 3, 1 and 1", x, x.concat(five, one), "3|411");
        int eleven = x.concat(x.concat(six, x.slice(1, 8, 11)), x.slice(1, 0, 2));
        checks.dueShape("leaves of 3, 3, 3 and 2", x, eleven, "4|3332");
        checks.dueShape("leaves of 3, 3, 3, 2 and 1", x, x.concat(eleven, one), "4|4431");
    }

    /** "(n is one less then, s the same.)": it is done again until the bound is reached. */
    private void packingGoesOnUntilTheBound() {
        RelaxedRadixVector x = Vectors.withPushed(16);
        int ten = x.concat(x.slice(1, 0, 5), x.slice(1, 3, 8));
        checks.dueShape("leaves of 4, 1, 1 and 4", x, ten, "4|4114");
        checks.dueShape("8 leaves with 20 elements", x, x.concat(ten, ten), "2|42|444314");
        checks.dueElements("8 leaves with 20 elements", x, Vectors.newest(x),
            "0 1 2 3 4 3 4 5 6 7 0 1 2 3 4 3 4 5 6 7");
        int five = x.concat(x.slice(1, 3, 5), x.slice(1, 0, 3));
        checks.dueShape("leaves of 1, 1 and 3", x, five, "3|113");
        checks.dueShape("6 leaves with 10 elements", x, x.concat(five, five), "4|4213");
    }

    /** "PACKING a row of n nodes": of the upper levels too, whose slots are nodes. */
    private void packingOfUpperLevels() {
        RelaxedRadixVector x = Vectors.withPushed(80);
        int edge = x.slice(1, 15, 17);
        checks.dueShape("slice(1, 15, 17)", x, edge, "2|11|11");
        int twice = x.concat(edge, edge);
        checks.dueShape("it and itself", x, twice, "2|31|1111");
        checks.dueElements("it and itself", x, twice, "15 16 15 16");
        int high = x.slice(1, 63, 65);
        checks.dueShape("slice(1, 63, 65)", x, high, "2|11|11|11");
        checks.dueShape("it and itself", x, x.concat(high, high), "2|21|121|1111");
        checks.dueElements("it and itself", x, Vectors.newest(x), "63 64 63 64");
    }

    /** "NONE, a number is not that of a version as it is wanted there, or a place is out of its range" */
    private void refusalsNoneFirst() {
        Supplier<RelaxedRadixVector> full = Vectors::mixedFull;
        checks.dueRefused("append to an open version when full", full, x -> x.append(4, 1), NONE);
        checks.dueRefused("prepend to an open version when full", full, x -> x.prepend(4, 1), NONE);
        checks.dueRefused("set at no place when full", full, x -> x.set(2, 9, 1), NONE);
        checks.dueRefused("concat of an open version when full", full, x -> x.concat(4, 1), NONE);
        checks.dueRefused("concat with an open version when full", full, x -> x.concat(1, 4), NONE);
        checks.dueRefused("slice beyond the end when full", full, x -> x.slice(2, 0, 10), NONE);
        checks.dueRefused("insertAt no place of 80 when full", full, x -> x.insertAt(1, 81, 1), NONE);
        checks.dueRefused("removeAt no place when full", full, x -> x.removeAt(2, 9), NONE);
        checks.dueRefused("thaw of an open version when full", full, x -> x.thaw(4), NONE);
        checks.dueRefused("insertAt no place of 80", Vectors::mixed, x -> x.insertAt(1, 81, 1), NONE);
        checks.dueRefused("concat of 80 with an open version", Vectors::mixed, x -> x.concat(1, 4), NONE);
    }

    /** "FULL, there are 40 versions": tested before LONG and before TALL. */
    private void refusalsFullBeforeLongAndTall() {
        Supplier<RelaxedRadixVector> full = Vectors::mixedFull;
        checks.dueRefused("append to 80 when full", full, x -> x.append(1, 1), FULL);
        checks.dueRefused("prepend to 80 when full", full, x -> x.prepend(1, 1), FULL);
        checks.dueRefused("concat of 80 and 80 when full", full, x -> x.concat(1, 1), FULL);
        checks.dueRefused("insertAt in 80 when full", full, x -> x.insertAt(1, 40, 1), FULL);
        fullBeforeTall("append", Vectors.TALL_BY_APPEND, x -> x.append(newestOf(x), 1));
        fullBeforeTall("prepend", Vectors.TALL_BY_PREPEND, x -> x.prepend(newestOf(x), 1));
        fullBeforeTall("concat", Vectors.TALL_BY_DOUBLE, x -> x.concat(newestOf(x), newestOf(x)));
        fullBeforeTall("insertAt", Vectors.TALL_BY_INSERT_AT_43, x -> x.insertAt(newestOf(x), 43, 1));
        fullBeforeTall("removeAt", Vectors.TALL_BY_REMOVE_AT_9, x -> x.removeAt(newestOf(x), 9));
    }

    /** With 39 versions the newest one is copied again and again, so that it is the newest there too. */
    private void fullBeforeTall(String name, String edits, ToIntFunction<RelaxedRadixVector> call) {
        checks.dueRefused(name + " too tall with 39 versions", () -> copied(edits, 39), call::applyAsInt, TALL);
        checks.dueRefused(name + " too tall with 40 versions", () -> copied(edits, 40), call::applyAsInt, FULL);
    }

    private static RelaxedRadixVector copied(String edits, int versions) {
        RelaxedRadixVector x = Vectors.after(edits);
        while (x.versions() < versions) {
            x.set(newestOf(x), 0, 5);
        }
        return x;
    }

    private static int newestOf(RelaxedRadixVector x) {
        return Vectors.newest(x);
    }

    /** "LONG, the result would have more than 80 elements; TALL": in this order. */
    private void refusalsLongBeforeTall() {
        Supplier<RelaxedRadixVector> fullAtItsEnd = () -> grown(Vectors.TALL_BY_APPEND, false);
        checks.due("its size", fullAtItsEnd.get().size(newestOf(fullAtItsEnd.get())), 80);
        checks.dueRefused("append to 80, full at the end", fullAtItsEnd, x -> x.append(newestOf(x), 1), LONG);
        checks.dueRefused("insertAt the end of it", fullAtItsEnd, x -> x.insertAt(newestOf(x), 80, 1), LONG);
        Supplier<RelaxedRadixVector> fullAtItsStart = () -> grown(Vectors.TALL_BY_PREPEND, true);
        checks.due("its size", fullAtItsStart.get().size(newestOf(fullAtItsStart.get())), 80);
        checks.dueRefused("prepend to 80, full at the start", fullAtItsStart, x -> x.prepend(newestOf(x), 1), LONG);
        checks.dueRefused("concat of it with itself", fullAtItsStart, x -> x.concat(newestOf(x), newestOf(x)), LONG);
    }

    /** The edits, and as many elements more at the other side as there may be. */
    private static RelaxedRadixVector grown(String edits, boolean atEnd) {
        RelaxedRadixVector x = Vectors.after(edits);
        int v = newestOf(x);
        for (int n = x.size(v); n < 80; n++) {
            v = atEnd ? x.append(v, 1) : x.prepend(v, 1);
        }
        return x;
    }

    /** "A call that is refused changes nothing.": many of them, one after another. */
    private void aRefusedCallChangesNothing() {
        checks.dueRefused("refused calls in a row", Vectors::mixed, x -> {
            long sum = x.append(4, 1) + x.append(1, 1) + x.prepend(1, 1) + x.set(2, 9, 1) + x.set(4, 0, 1);
            sum += x.concat(1, 2) + x.concat(4, 2) + x.slice(2, 5, 4) + x.insertAt(1, 0, 1) + x.insertAt(4, 0, 1);
            sum += x.removeAt(4, 0) + x.removeAt(0, 0) + x.thaw(4) + x.thaw(6);
            return sum + (x.push(1, 1) || x.put(2, 0, 1) || x.put(4, 9, 1) || x.freeze(2) ? 100 : 0);
        }, -22);
        checks.dueRefused("calls refused for 40 versions", Vectors::mixedFull, x -> {
            long sum = x.append(2, 1) + x.prepend(2, 1) + x.set(2, 0, 1) + x.concat(2, 2) + x.slice(2, 0, 1);
            return sum + x.insertAt(2, 0, 1) + x.removeAt(2, 0) + x.thaw(2);
        }, 8 * FULL);
    }

    /** "TALL, the tree of the result would have more than 4 levels": 4 are allowed, by each call. */
    private void fourLevelsAreNotTooTall() {
        RelaxedRadixVector x = Vectors.withPushed(64);
        int half = x.slice(1, 0, 33);
        int open = x.thaw(1);
        checks.due("height(1)", x.height(1), 3);
        checks.due("height of append", x.height(x.append(1, 1)), 4);
        checks.due("height of prepend", x.height(x.prepend(1, 1)), 4);
        checks.due("height of concat", x.height(x.concat(half, half)), 4);
        checks.dueShape("insertAt(1, 32, 1)", x, x.insertAt(1, 32, 1), "2|41|44414|44444444144444444");
        checks.dueShape("removeAt(1, 1)", x, x.removeAt(1, 1), "2|41|41444|12444444444444444");
        checks.due("push(open, 1)", x.push(open, 1), true);
        checks.due("height of push", x.height(open), 4);
        int high = x.append(1, 1);
        checks.due("height of set", x.height(x.set(high, 0, 1)), 4);
        checks.due("height of slice", x.height(x.slice(high, 1, 65)), 4);
        checks.due("height of thaw", x.height(x.thaw(high)), 4);
    }

    /** "(the result alone, not a tree on the way to it)": also where the cut parts are lower or as high. */
    private void theResultAloneIsMeasured() {
        RelaxedRadixVector x = Vectors.after(Vectors.TALL_BY_APPEND);
        int v = newestOf(x);
        int size = x.size(v);
        checks.due("append at the full end", x.append(v, 1), TALL);
        checks.due("insertAt the full end", x.insertAt(v, size, 1), TALL);
        checks.due("insertAt one place before", x.insertAt(v, size - 1, 1), v + 1);
        checks.due("its height", x.height(v + 1), 4);
        checks.due("removeAt the full end", x.removeAt(v, size - 1), v + 2);
        checks.due("append to that", x.append(v + 2, 1), v + 3);
        checks.due("its height", x.height(v + 3), 4);
        checks.due("concat of it and nothing", x.concat(v, 0), v + 4);
    }
}
