/** For each promise: ordinary inputs, the edges that the document names, and wrong inputs. */
public final class PromisesTest {
    private static final int NONE = TreeRevisions.NONE;
    private static final int[] NO_PATHS = {Integer.MIN_VALUE, -125, -1, 125, 126, 130, 156, Integer.MAX_VALUE};
    private static final int[] BAD_PATHS = {5, 10, 20, 25, 26, 30, 50, 55, 100, 104, 120};
    private static final int[] NO_TRANSACTIONS = {Integer.MIN_VALUE, -3, -1, 3, 4, Integer.MAX_VALUE};

    private static int wrong = 0;
    private static int promise = 0;

    private static void due(String what, long got, long want) {
        if (got != want) {
            wrong++;
            System.out.println("promise " + promise + ": " + what + " answered " + got + ", due is " + want);
        }
    }

    private static void yes(String what, boolean got) {
        due(what, got ? 1 : 0, 1);
    }

    private static void no(String what, boolean got) {
        due(what, got ? 1 : 0, 0);
    }

    private static int path(int... names) {
        int p = 0;
        for (int i = names.length - 1; i >= 0; i--) {
            p = p * 5 + names[i];
        }
        return p;
    }

    /** The digits of a text that is written as hexadecimal characters, the first one first. */
    private static long digits(String text) {
        long digits = 0;
        for (int i = text.length() - 1; i >= 0; i--) {
            digits = digits << 4 | Character.digit(text.charAt(i), 16);
        }
        return digits;
    }

    private static void write(TreeRevisions x, int t, int p, String text) {
        yes("write " + text + " to " + p, x.write(t, p, digits(text), text.length()));
    }

    private static void commit(TreeRevisions x, int t, int revision) {
        due("commit of " + t, x.commit(t), revision);
    }

    /** Commits revision 1: directories 1, 1/1 and 3, files 1/1/1 (text abcde), 1/2 (empty, not written) and 2 (text 12). */
    private static TreeRevisions sample() {
        TreeRevisions x = new TreeRevisions();
        x.begin(0);
        x.make(0, path(1), true);
        x.make(0, path(1, 1), true);
        x.make(0, path(1, 1, 1), false);
        x.make(0, path(1, 2), false);
        x.make(0, path(2), false);
        x.make(0, path(3), true);
        write(x, 0, path(1, 1, 1), "abcde");
        write(x, 0, path(2), "12");
        commit(x, 0, 1);
        return x;
    }

    private static void newObject() {
        TreeRevisions x = new TreeRevisions();
        due("youngest", x.youngest(), 0);
        due("kind of the root", x.kind(0, 0), 1);
        due("line of the root", x.line(0, 0), 0);
        due("count of the root", x.count(0, 0), 0);
        due("creation of the root", x.created(0, 0), 0);
        for (int p = 1; p < 125; p++) {
            due("kind at " + p, x.kind(0, p), 0);
        }
        for (int t = 0; t < 3; t++) {
            due("tree of transaction " + t, x.kind(-1 - t, 0), NONE);
            no("abort " + t, x.abort(t));
        }
        due("revision 1", x.kind(1, 0), NONE);
        due("representations", x.representations(), 0);
        due("representation 0", x.stored(0, 1), NONE);
        due("NONE", TreeRevisions.NONE, -1);
    }

    private static void begin() {
        TreeRevisions x = new TreeRevisions();
        for (int t : NO_TRANSACTIONS) {
            no("begin " + t, x.begin(t));
        }
        for (int t = 0; t < 3; t++) {
            yes("begin " + t, x.begin(t));
            no("begin an open one, " + t, x.begin(t));
        }
        yes("make", x.make(0, 1, true));
        no("begin a changed one", x.begin(0));
        due("refused begin leaves the tree", x.kind(-1, 1), 1);
        commit(x, 0, 1);
        yes("begin again after a commit", x.begin(0));
        due("tree of the base", x.kind(-1, 1), 1);
        due("node of the base", x.created(-1, 1), 1);
        due("one begun before has its own tree", x.kind(-2, 1), 0);
        yes("abort", x.abort(1));
        yes("begin again after an abort", x.begin(1));
        due("the base is the youngest", x.kind(-2, 1), 1);
    }

    private static void make() {
        TreeRevisions x = new TreeRevisions();
        no("make in none open", x.make(0, 1, true));
        x.begin(0);
        x.begin(1);
        for (int t : NO_TRANSACTIONS) {
            no("make in " + t, x.make(t, 1, true));
        }
        for (int p : NO_PATHS) {
            no("make at " + p, x.make(0, p, true));
        }
        for (int p : BAD_PATHS) {
            no("make at " + p, x.make(0, p, true));
        }
        no("make the root", x.make(0, 0, true));
        no("make without a parent", x.make(0, path(1, 1), true));
        due("refused makes touch nothing", x.count(-1, 0), 0);
        due("refused makes leave the root of the revision", x.created(-1, 0), 0);
        yes("make a directory", x.make(0, path(1), true));
        due("first line", x.line(-1, path(1)), 1);
        due("kind", x.kind(-1, path(1)), 1);
        due("count", x.count(-1, path(1)), 0);
        due("creation", x.created(-1, path(1)), NONE);
        due("no text", x.text(-1, path(1)), NONE);
        due("root is touched", x.count(-1, 0), 1);
        due("root is of the transaction", x.created(-1, 0), NONE);
        due("root keeps its line", x.line(-1, 0), 0);
        due("other transaction", x.kind(-2, path(1)), 0);
        no("make at a node", x.make(0, path(1), false));
        yes("make in another transaction", x.make(1, path(4), false));
        due("lines of all transactions", x.line(-2, path(4)), 2);
        no("make below a file", x.make(1, path(4, 1), true));
        yes("make below", x.make(0, path(1, 4), true));
        yes("make at the deepest", x.make(0, path(1, 4, 2), true));
        due("fourth line", x.line(-1, path(1, 4, 2)), 4);
        due("root is touched once", x.count(-1, 0), 1);
        due("made directory is not touched again", x.count(-1, path(1)), 0);
        yes("make a file", x.make(0, path(1, 4, 4), false));
        due("kind of a file", x.kind(-1, path(1, 4, 4)), 2);
        due("empty text", x.text(-1, path(1, 4, 4)), 0);
        due("empty text's length", x.length(-1, path(1, 4, 4)), 0);
        commit(x, 0, 1);
        x.begin(0);
        x.make(0, path(1, 4, 1), false);
        due("parent is touched", x.count(-1, path(1, 4)), 1);
        due("parent's parent is touched", x.count(-1, path(1)), 1);
        due("root is touched after a commit", x.count(-1, 0), 2);
        due("beside it nothing is touched", x.created(-1, path(1, 4, 2)), 1);
        due("touched keeps its line", x.line(-1, path(1, 4)), 3);
        due("the revision stays", x.count(1, path(1)), 0);
    }

    private static void remove() {
        TreeRevisions x = sample();
        no("remove in none open", x.remove(0, path(2)));
        x.begin(0);
        for (int t : NO_TRANSACTIONS) {
            no("remove in " + t, x.remove(t, path(2)));
        }
        for (int p : NO_PATHS) {
            no("remove " + p, x.remove(0, p));
        }
        for (int p : BAD_PATHS) {
            no("remove " + p, x.remove(0, p));
        }
        no("remove the root", x.remove(0, 0));
        no("remove nothing", x.remove(0, path(4)));
        due("refused removes touch nothing", x.count(-1, 0), 1);
        yes("remove a directory", x.remove(0, path(1, 1)));
        due("it is gone", x.kind(-1, path(1, 1)), 0);
        due("what was below is gone", x.kind(-1, path(1, 1, 1)), 0);
        due("beside it all stays", x.kind(-1, path(1, 2)), 2);
        due("parent is touched", x.count(-1, path(1)), 1);
        due("parent's creation", x.created(-1, path(1)), NONE);
        due("root is touched", x.count(-1, 0), 2);
        due("beside the parent nothing is touched", x.created(-1, path(2)), 1);
        due("the revision stays", x.kind(1, path(1, 1, 1)), 2);
        no("remove again", x.remove(0, path(1, 1)));
        yes("remove a file", x.remove(0, path(2)));
        yes("make another there", x.make(0, path(2), true));
        due("it has a line of its own", x.line(-1, path(2)), 7);
        due("it has a count of its own", x.count(-1, path(2)), 0);
        yes("make a directory where one was", x.make(0, path(1, 1), true));
        due("nothing is below the new one", x.kind(-1, path(1, 1, 1)), 0);
        yes("remove one of the transaction", x.remove(0, path(2)));
        due("it is gone, too", x.kind(-1, path(2)), 0);
    }

    private static void refusedCopies(TreeRevisions x) {
        for (int t : NO_TRANSACTIONS) {
            no("copy in " + t, x.copy(t, 1, path(2), path(4)));
        }
        no("copy in none open", x.copy(1, 1, path(2), path(4)));
        for (int r : new int[] {Integer.MIN_VALUE, -1, 2, 16, Integer.MAX_VALUE}) {
            no("copy from revision " + r, x.copy(0, r, path(2), path(4)));
        }
        for (int p : NO_PATHS) {
            no("copy from " + p, x.copy(0, 1, p, path(4)));
            no("copy to " + p, x.copy(0, 1, path(2), p));
        }
        for (int p : BAD_PATHS) {
            no("copy from " + p, x.copy(0, 1, p, path(4)));
            no("copy to " + p, x.copy(0, 1, path(2), p));
        }
        no("copy from nothing", x.copy(0, 1, path(4), path(4)));
        no("copy to the root", x.copy(0, 1, path(2), 0));
        no("copy to a node", x.copy(0, 1, path(2), path(3)));
        no("copy below nothing", x.copy(0, 1, path(2), path(4, 1)));
        no("copy below a file", x.copy(0, 1, path(2), path(2, 1)));
        no("copy that would be too deep by one", x.copy(0, 1, path(1), path(3, 1)));
        no("copy of the root that would be too deep", x.copy(0, 1, 0, path(4)));
        due("refused copies touch nothing", x.created(-1, 0), 1);
    }

    private static void copy() {
        TreeRevisions x = sample();
        x.begin(0);
        refusedCopies(x);
        yes("copy that is just not too deep", x.copy(0, 1, path(1, 1), path(3, 4)));
        int g = path(3, 4);
        due("kind", x.kind(-1, g), 1);
        due("new line", x.line(-1, g), 7);
        due("count is one more", x.count(-1, g), 1);
        due("creation", x.created(-1, g), NONE);
        due("below is the same node", x.line(-1, path(3, 4, 1)), 3);
        due("below is a node of the revision", x.created(-1, path(3, 4, 1)), 1);
        due("count below", x.count(-1, path(3, 4, 1)), 0);
        due("text below", x.text(-1, path(3, 4, 1)), digits("abcde"));
        due("parent is touched", x.count(-1, path(3)), 1);
        due("root is touched", x.count(-1, 0), 2);
        due("source is not touched", x.created(-1, path(1, 1)), 1);
        yes("copy of a file", x.copy(0, 1, path(2), path(4)));
        due("kind of a file", x.kind(-1, path(4)), 2);
        due("text of a file", x.text(-1, path(4)), 0x21);
        due("length of a file", x.length(-1, path(4)), 2);
        due("next line", x.line(-1, path(4)), 8);
        yes("copy of a file to the deepest", x.copy(0, 1, path(2), path(1, 1, 2)));
        yes("remove the source", x.remove(0, path(2)));
        yes("copy over what was removed", x.copy(0, 1, path(1), path(2)));
        due("all below", x.line(-1, path(2, 1, 1)), 3);
        due("not what the transaction put into the source", x.kind(-1, path(2, 1, 2)), 0);
        yes("copy of a root", x.copy(0, 0, 0, path(1, 4)));
        due("line of a copied root", x.line(-1, path(1, 4)), 11);
        due("count of a copied root", x.count(-1, path(1, 4)), 1);
        yes("write below a copy", x.write(0, path(3, 4, 1), 5, 1));
        due("what is below a copy is touched", x.count(-1, path(3, 4, 1)), 1);
        due("the copy is not touched again", x.count(-1, g), 1);
        due("the source's below stays", x.text(-1, path(1, 1, 1)), digits("abcde"));
        commit(x, 0, 2);
        x.begin(1);
        x.begin(2);
        x.make(2, path(3, 1), false);
        commit(x, 2, 3);
        yes("copy from a revision after the base", x.copy(1, 3, path(3, 1), path(3, 2)));
        commit(x, 1, 4);
        x.begin(1);
        yes("copy from an old revision", x.copy(1, 1, path(2), path(3, 3)));
        due("its text", x.text(-2, path(3, 3)), 0x21);
        due("lines go on", x.line(-2, path(3, 3)), 14);
    }

    private static void write() {
        TreeRevisions x = sample();
        no("write in none open", x.write(0, path(2), 1, 1));
        x.begin(0);
        for (int t : NO_TRANSACTIONS) {
            no("write in " + t, x.write(t, path(2), 1, 1));
        }
        for (int p : NO_PATHS) {
            no("write to " + p, x.write(0, p, 1, 1));
        }
        for (int p : BAD_PATHS) {
            no("write to " + p, x.write(0, p, 1, 1));
        }
        for (int n : new int[] {Integer.MIN_VALUE, -1, 13, 16, Integer.MAX_VALUE}) {
            no("write of " + n + " digits", x.write(0, path(2), 1, n));
        }
        no("write to the root", x.write(0, 0, 1, 1));
        no("write to a directory", x.write(0, path(1), 1, 1));
        no("write to nothing", x.write(0, path(4), 1, 1));
        due("refused writes touch nothing", x.created(-1, path(2)), 1);
        due("refused writes leave the text", x.text(-1, path(2)), 0x21);
        yes("write 12 digits", x.write(0, path(1, 1, 1), -1L, 12));
        due("only 12 digits are kept", x.text(-1, path(1, 1, 1)), 0xffffffffffffL);
        due("length", x.length(-1, path(1, 1, 1)), 12);
        due("file is touched", x.count(-1, path(1, 1, 1)), 1);
        due("creation", x.created(-1, path(1, 1, 1)), NONE);
        due("line", x.line(-1, path(1, 1, 1)), 3);
        due("parent is touched", x.count(-1, path(1, 1)), 1);
        due("its parent is touched", x.count(-1, path(1)), 1);
        due("root is touched", x.count(-1, 0), 2);
        yes("write again", x.write(0, path(1, 1, 1), 0x7654321L, 3));
        due("digits above n are not kept", x.text(-1, path(1, 1, 1)), 0x321);
        due("length again", x.length(-1, path(1, 1, 1)), 3);
        due("file is touched once", x.count(-1, path(1, 1, 1)), 1);
        yes("write no digits", x.write(0, path(2), -1L, 0));
        due("no digits", x.text(-1, path(2)), 0);
        due("no length", x.length(-1, path(2)), 0);
        yes("write zeros", x.write(0, path(1, 2), 0, 4));
        due("zeros", x.text(-1, path(1, 2)), 0);
        due("length of zeros", x.length(-1, path(1, 2)), 4);
        due("the revision stays", x.text(1, path(1, 1, 1)), digits("abcde"));
    }

    private static void commit() {
        TreeRevisions x = sample();
        for (int t : NO_TRANSACTIONS) {
            due("commit of " + t, x.commit(t), NONE);
        }
        due("commit of one that is committed", x.commit(0), NONE);
        due("no revision came of it", x.youngest(), 1);
        x.begin(0);
        commit(x, 0, 2);
        due("nothing changed: the same root", x.created(2, 0), 1);
        due("it is open no more", x.kind(-1, 0), NONE);
        x.begin(0);
        x.remove(0, path(3));
        commit(x, 0, 3);
        due("creation of the touched", x.created(3, 0), 3);
        due("creation of what stays", x.created(3, path(1)), 1);
        due("earlier revisions stay", x.kind(2, path(3)), 1);
        due("it is removed", x.kind(3, path(3)), 0);
    }

    private static void mergeOfBothSides() {
        TreeRevisions x = sample();
        for (int t = 0; t < 3; t++) {
            x.begin(t);
        }
        x.make(0, path(1, 1, 2), false);
        x.remove(0, path(3));
        x.make(0, path(4), true);
        x.make(0, path(4, 1), true);
        x.make(0, path(4, 1, 1), false);
        commit(x, 0, 2);
        x.make(1, path(1, 1, 3), false);
        write(x, 1, path(2), "777");
        due("count before merging", x.count(-2, path(1, 1)), 1);
        commit(x, 1, 3);
        due("what only the youngest made", x.kind(3, path(1, 1, 2)), 2);
        due("what only the youngest made is its node", x.created(3, path(1, 1, 2)), 2);
        due("what only the transaction made", x.kind(3, path(1, 1, 3)), 2);
        due("what only the transaction wrote", x.text(3, path(2)), 0x777);
        due("what only the youngest removed", x.kind(3, path(3)), 0);
        due("with all below it", x.created(3, path(4, 1, 1)), 2);
        due("count of a merged directory", x.count(3, path(1, 1)), 2);
        due("count of its parent", x.count(3, path(1)), 2);
        due("count of the merged root", x.count(3, 0), 3);
        due("creation of a merged directory", x.created(3, path(1)), 3);
        due("line of a merged directory", x.line(3, path(1)), 1);
        due("the youngest one stays", x.count(2, path(1, 1)), 1);
        commit(x, 2, 4);
        due("one without changes becomes the youngest", x.kind(4, path(1, 1, 3)), 2);
        due("with the same root", x.created(4, 0), 3);
        x.begin(0);
        x.begin(1);
        commit(x, 1, 5);
        x.make(0, path(3), false);
        commit(x, 0, 6);
        due("the youngest has the root of the base", x.count(6, 0), 4);
        due("what was made stays", x.kind(6, path(3)), 2);
    }

    private static void conflicts() {
        TreeRevisions x = sample();
        for (int t = 0; t < 3; t++) {
            x.begin(t);
        }
        write(x, 0, path(1, 1, 1), "1");
        x.remove(0, path(2));
        x.make(0, path(4), true);
        commit(x, 0, 2);
        write(x, 1, path(1, 1, 1), "1");
        x.remove(1, path(2));
        x.make(1, path(4), true);
        x.make(1, path(1, 3), true);
        due("files written alike", x.commit(1), -2 - path(1, 1, 1));
        due("again", x.commit(1), -2 - path(1, 1, 1));
        due("no revision came of it", x.youngest(), 2);
        due("the transaction is as it was", x.count(-2, 0), 2);
        due("also below", x.count(-2, path(1)), 1);
        due("and open", x.kind(-2, path(1, 3)), 1);
        x.remove(1, path(1, 1, 1));
        due("written and removed", x.commit(1), -2 - path(1, 1, 1));
        x.remove(1, path(1, 1));
        due("below and removed", x.commit(1), -2 - path(1, 1));
        x.abort(1);
        x.remove(2, path(2));
        x.make(2, path(4), false);
        due("both removed", x.commit(2), -2 - path(2));
        x.copy(2, 1, path(2), path(2));
        due("removed and copied", x.commit(2), -2 - path(2));
        x.abort(2);
        x.begin(0);
        x.begin(1);
        x.make(0, path(3, 1), true);
        commit(x, 0, 3);
        x.remove(1, path(3));
        x.make(1, path(3), true);
        due("directories of different lines", x.commit(1), -2 - path(3));
        x.abort(1);
        x.begin(0);
        x.begin(1);
        x.make(0, path(2), false);
        commit(x, 0, 4);
        x.make(1, path(2), false);
        due("both made", x.commit(1), -2 - path(2));
        x.remove(1, path(2));
        commit(x, 1, 5);
        due("made by the youngest alone", x.created(5, path(2)), 4);
        x.begin(0);
        x.begin(1);
        x.make(0, path(4, 4), false);
        x.make(0, path(4, 3), false);
        commit(x, 0, 6);
        x.make(1, path(4, 4), false);
        due("at the last name", x.commit(1), -2 - path(4, 4));
        x.make(1, path(4, 3), true);
        due("at the first of two", x.commit(1), -2 - path(4, 3));
    }

    private static void failedMergeUndoesAll() {
        TreeRevisions x = sample();
        x.begin(0);
        x.begin(1);
        x.make(0, path(1, 3), false);
        write(x, 0, path(2), "5");
        commit(x, 0, 2);
        x.make(1, path(1, 4), false);
        write(x, 1, path(2), "6");
        due("conflict behind what could be merged", x.commit(1), -2 - path(2));
        due("nothing was taken over", x.kind(-2, path(1, 3)), 0);
        due("count as before", x.count(-2, path(1)), 1);
        x.begin(0);
        write(x, 0, path(1, 2), "7");
        commit(x, 0, 3);
        due("the conflict stays", x.commit(1), -2 - path(2));
        yes("still open", x.make(1, path(1, 1, 4), true));
        due("still refused", x.commit(1), -2 - path(2));
        yes("abort", x.abort(1));
        due("representations", x.representations(), 4);
    }

    private static void sixteenRevisions() {
        TreeRevisions x = new TreeRevisions();
        x.begin(2);
        x.make(2, 1, true);
        for (int r = 1; r <= 15; r++) {
            x.begin(0);
            x.make(0, r % 2 == 1 ? 1 : 2, true);
            x.remove(0, r % 2 == 1 ? 2 : 1);
            commit(x, 0, r);
        }
        yes("begin after the last", x.begin(1));
        due("seventeenth revision", x.commit(1), NONE);
        due("it stays open", x.kind(-2, 1), 1);
        due("NONE goes before a conflict", x.commit(2), NONE);
        due("youngest", x.youngest(), 15);
        due("count of the root", x.count(15, 0), 15);
    }

    private static void abort() {
        TreeRevisions x = sample();
        for (int t : NO_TRANSACTIONS) {
            no("abort " + t, x.abort(t));
        }
        no("abort a committed one", x.abort(0));
        x.begin(0);
        x.make(0, path(4), true);
        x.remove(0, path(1));
        write(x, 0, path(2), "99");
        yes("abort", x.abort(0));
        no("abort again", x.abort(0));
        due("no tree", x.kind(-1, 0), NONE);
        due("no revision", x.youngest(), 1);
        due("no change", x.text(1, path(2)), 0x21);
        due("no representation", x.representations(), 2);
        x.begin(0);
        due("begun anew", x.kind(-1, path(4)), 0);
        due("begun anew below", x.kind(-1, path(1, 1, 1)), 2);
        x.make(0, path(4), true);
        due("lines are used up", x.line(-1, path(4)), 8);
    }

    private static void youngest() {
        TreeRevisions x = sample();
        due("after one commit", x.youngest(), 1);
        x.begin(0);
        due("begin makes no revision", x.youngest(), 1);
        x.make(0, path(4), true);
        x.begin(1);
        commit(x, 1, 2);
        due("after two", x.youngest(), 2);
        x.abort(0);
        due("abort makes none", x.youngest(), 2);
    }

    private static void asked() {
        TreeRevisions x = sample();
        x.begin(1);
        int[] noTrees = {Integer.MIN_VALUE, -5, -4, -3, -1, 2, 3, 16, Integer.MAX_VALUE};
        int[] all = new int[NO_PATHS.length + BAD_PATHS.length + 1];
        System.arraycopy(NO_PATHS, 0, all, 0, NO_PATHS.length);
        System.arraycopy(BAD_PATHS, 0, all, NO_PATHS.length, BAD_PATHS.length);
        all[all.length - 1] = path(4);
        promise = 10;
        due("directory", x.kind(1, path(1)), 1);
        due("file", x.kind(1, path(2)), 2);
        due("directory in a transaction", x.kind(-2, path(1)), 1);
        for (int v : noTrees) {
            promise = 10;
            due("kind in " + v, x.kind(v, 0), NONE);
            due("kind of nothing in " + v, x.kind(v, path(4)), NONE);
            promise = 11;
            due("text in " + v, x.text(v, path(2)), NONE);
            promise = 12;
            due("length in " + v, x.length(v, path(2)), NONE);
            promise = 13;
            due("line in " + v, x.line(v, path(2)), NONE);
            promise = 14;
            due("count in " + v, x.count(v, path(2)), NONE);
            promise = 15;
            due("created in " + v, x.created(v, path(2)), NONE);
        }
        for (int p : all) {
            for (int v : new int[] {1, -2}) {
                promise = 10;
                due("kind at " + p, x.kind(v, p), 0);
                promise = 11;
                due("text at " + p, x.text(v, p), NONE);
                promise = 12;
                due("length at " + p, x.length(v, p), NONE);
                promise = 13;
                due("line at " + p, x.line(v, p), NONE);
                promise = 14;
                due("count at " + p, x.count(v, p), NONE);
                promise = 15;
                due("created at " + p, x.created(v, p), NONE);
            }
        }
    }

    private static void askedOfFilesAndDirectories() {
        TreeRevisions x = sample();
        x.begin(2);
        write(x, 2, path(2), "0f0");
        promise = 11;
        due("text of a directory", x.text(1, path(1)), NONE);
        due("text of the root", x.text(1, 0), NONE);
        due("text of a revision", x.text(1, path(2)), 0x21);
        due("text of a transaction", x.text(-3, path(2)), 0xf0);
        due("empty text", x.text(1, path(1, 2)), 0);
        promise = 12;
        due("length of a directory", x.length(1, path(1)), NONE);
        due("length in a revision", x.length(1, path(2)), 2);
        due("length in a transaction", x.length(-3, path(2)), 3);
        due("length of an empty text", x.length(1, path(1, 2)), 0);
        promise = 13;
        due("line in a transaction", x.line(-3, path(2)), 5);
        due("line in a revision", x.line(1, path(1, 2)), 4);
        promise = 14;
        due("count in a transaction", x.count(-3, path(2)), 1);
        due("count in a revision", x.count(1, path(2)), 0);
        promise = 15;
        due("created in a transaction", x.created(-3, path(2)), NONE);
        due("created of a node of a revision in a transaction", x.created(-3, path(1)), 1);
        due("created in revision 0", x.created(0, 0), 0);
        commit(x, 2, 2);
        due("created in revision 2", x.created(2, path(2)), 2);
        due("created of what stays", x.created(2, path(1)), 1);
    }

    private static void locateWrong() {
        TreeRevisions x = sample();
        for (int r : new int[] {Integer.MIN_VALUE, -1, 2, 16, Integer.MAX_VALUE}) {
            due("locate from revision " + r, x.locate(r, 0, 0), NONE);
            due("locate in revision " + r, x.locate(1, 0, r), NONE);
        }
        for (int p : NO_PATHS) {
            due("locate " + p, x.locate(1, p, 1), NONE);
        }
        for (int p : BAD_PATHS) {
            due("locate " + p, x.locate(1, p, 1), NONE);
        }
        due("forward", x.locate(0, 0, 1), NONE);
        due("nothing there", x.locate(1, path(4), 1), NONE);
        due("itself", x.locate(1, path(1, 1, 1), 1), path(1, 1, 1));
        due("the root", x.locate(1, 0, 0), 0);
        due("before it was made", x.locate(1, path(1), 0), NONE);
    }

    private static void locateThroughCopies() {
        TreeRevisions x = sample();
        x.begin(0);
        x.copy(0, 1, path(1), path(4));
        x.make(0, path(4, 4), true);
        x.remove(0, path(4, 2));
        x.make(0, path(4, 2), false);
        x.copy(0, 1, path(2), path(4, 1, 4));
        commit(x, 0, 2);
        x.begin(0);
        write(x, 0, path(4, 1, 1), "f");
        x.remove(0, path(1));
        commit(x, 0, 3);
        due("a copy", x.locate(3, path(4), 1), path(1));
        due("a copy in its revision", x.locate(3, path(4), 2), path(4));
        due("below a copy", x.locate(3, path(4, 1), 1), path(1, 1));
        due("deeper below a copy, touched since", x.locate(3, path(4, 1, 1), 1), path(1, 1, 1));
        due("past the source's making", x.locate(3, path(4, 1, 1), 0), NONE);
        due("made below a copy", x.locate(3, path(4, 4), 1), NONE);
        due("made below a copy, in its revision", x.locate(3, path(4, 4), 2), path(4, 4));
        due("made where the source has another line", x.locate(3, path(4, 2), 1), NONE);
        due("the deepest copy counts", x.locate(3, path(4, 1, 4), 1), path(2));
        due("gone from the youngest", x.locate(3, path(1), 1), NONE);
        x.begin(0);
        x.copy(0, 1, path(1, 1), path(1));
        x.make(0, path(1, 2), true);
        x.make(0, path(1, 2, 3), true);
        commit(x, 0, 4);
        due("a copy passes over revisions", x.locate(4, path(1), 1), path(1, 1));
        due("and is nowhere in those", x.locate(4, path(1), 2), NONE);
        due("nor what is below it", x.locate(4, path(1, 1), 3), NONE);
        due("below a copy from deeper", x.locate(4, path(1, 1), 1), path(1, 1, 1));
        due("what would be too deep in the source", x.locate(4, path(1, 2, 3), 1), NONE);
        x.begin(0);
        x.copy(0, 3, path(4), path(3, 1));
        due("of a copy with all below", x.kind(-1, path(3, 1)), 0);
        x.remove(0, path(3));
        x.copy(0, 3, path(4), path(3));
        commit(x, 0, 5);
        due("through two copies", x.locate(5, path(3, 1, 1), 1), path(1, 1, 1));
        due("through one copy", x.locate(5, path(3, 1, 1), 2), path(4, 1, 1));
        due("the copy of a copy", x.locate(5, path(3), 1), path(1));
        due("an older copy below a newer one", x.locate(5, path(3, 1, 4), 1), path(2));
    }

    private static void locateOfCopiedRoot() {
        TreeRevisions x = new TreeRevisions();
        x.begin(0);
        x.make(0, path(1), false);
        commit(x, 0, 1);
        x.begin(0);
        x.copy(0, 1, 0, path(2));
        commit(x, 0, 2);
        due("a copied root", x.locate(2, path(2), 1), 0);
        due("a copied root before its source", x.locate(2, path(2), 0), 0);
        due("below a copied root", x.locate(2, path(2, 1), 1), path(1));
        x.begin(0);
        write(x, 0, path(2, 1), "1");
        commit(x, 0, 3);
        due("a copy that was touched later", x.locate(3, path(2), 1), 0);
        due("a touched copy has no source of its own", x.locate(3, path(2), 2), path(2));
    }

    private static void representation() {
        TreeRevisions x = sample();
        due("in ascending order of paths", x.representation(1, path(2)), 0);
        due("the deeper behind it", x.representation(1, path(1, 1, 1)), 1);
        due("never written", x.representation(1, path(1, 2)), NONE);
        due("of a directory", x.representation(1, path(1)), NONE);
        due("of nothing", x.representation(1, path(4)), NONE);
        for (int r : new int[] {Integer.MIN_VALUE, -1, 2, Integer.MAX_VALUE}) {
            due("in revision " + r, x.representation(r, path(2)), NONE);
        }
        for (int p : NO_PATHS) {
            due("at " + p, x.representation(1, p), NONE);
        }
        x.begin(0);
        due("in a transaction", x.representation(-1, path(2)), NONE);
        x.copy(0, 1, path(2), path(4));
        x.copy(0, 1, path(2), path(3, 1));
        write(x, 0, path(3, 1), "abcde");
        write(x, 0, path(2), "");
        write(x, 0, path(1, 2), "12");
        commit(x, 0, 2);
        due("copied and not written", x.representation(2, path(4)), 0);
        due("copied and written with an equal text", x.representation(2, path(3, 1)), 1);
        due("written empty", x.representation(2, path(2)), NONE);
        due("equal text of another file", x.representation(2, path(1, 2)), 0);
        due("earlier revision", x.representation(1, path(2)), 0);
        due("below the untouched", x.representation(2, path(1, 1, 1)), 1);
        x.begin(0);
        x.copy(0, 2, path(2), path(3, 2));
        x.copy(0, 2, path(1), path(2, 1));
        x.remove(0, path(4));
        x.make(0, path(4), false);
        commit(x, 0, 3);
        due("copy of an empty one", x.representation(3, path(3, 2)), NONE);
        due("made anew", x.representation(3, path(4)), NONE);
    }

    private static void representations() {
        TreeRevisions x = sample();
        due("two texts", x.representations(), 2);
        x.begin(0);
        write(x, 0, path(2), "34");
        due("none before the commit", x.representations(), 2);
        write(x, 0, path(2), "35");
        x.make(0, path(4), false);
        write(x, 0, path(4), "36");
        x.remove(0, path(4));
        write(x, 0, path(1, 2), "");
        commit(x, 0, 2);
        due("only what is in the tree", x.representations(), 3);
        x.begin(0);
        write(x, 0, path(2), "12");
        write(x, 0, path(1, 2), "12");
        write(x, 0, path(1, 1, 1), "120");
        commit(x, 0, 3);
        due("equal texts once, longer ones are others", x.representations(), 4);
    }

    private static void storedWrong() {
        TreeRevisions x = sample();
        for (int k : new int[] {Integer.MIN_VALUE, -1, 2, 3, Integer.MAX_VALUE}) {
            for (int what = 0; what < 4; what++) {
                due("stored " + k, x.stored(k, what), NONE);
            }
        }
        for (int what : new int[] {Integer.MIN_VALUE, -1, 4, Integer.MAX_VALUE}) {
            due("what is " + what, x.stored(0, what), NONE);
        }
        due("no base", x.stored(1, 0), NONE);
        due("chain without a base", x.stored(1, 1), 1);
        due("size without a base", x.stored(1, 2), 6);
        due("digits", x.stored(1, 3), 5);
    }

    /** The size of a text that is stored on the base of another. */
    private static int sizeOn(String base, String text) {
        TreeRevisions x = new TreeRevisions();
        x.begin(0);
        x.make(0, 1, false);
        write(x, 0, 1, base);
        commit(x, 0, 1);
        x.begin(0);
        write(x, 0, 1, text);
        commit(x, 0, 2);
        due("base of " + text, x.stored(1, 0), base.isEmpty() ? NONE : 0);
        due("digits of " + text, x.stored(1, 3), base.isEmpty() ? NONE : text.length());
        return x.stored(base.isEmpty() ? 0 : 1, 2);
    }

    private static void sizes() {
        due("one digit", sizeOn("", "5"), 2);
        due("repetition is no piece without a base", sizeOn("", "111111"), 7);
        due("part of the base", sizeOn("123456", "2345"), 2);
        due("pieces of two are too short", sizeOn("12", "121"), 4);
        due("a piece of three", sizeOn("123", "1231"), 4);
        due("two pieces", sizeOn("123456", "456123"), 4);
        due("the same piece again", sizeOn("123", "123123"), 4);
        due("digits between pieces", sizeOn("123", "1239123"), 6);
        due("digits after a piece begin anew", sizeOn("123", "9912388"), 8);
        due("the longest piece, not the first", sizeOn("1239123456", "123456"), 2);
        due("the longest piece, not the best", sizeOn("abcd0def", "abcdef"), 5);
        due("longer than the base", sizeOn("111", "11111"), 5);
        due("zeros", sizeOn("0000", "000"), 2);
        due("a piece ends with the text", sizeOn("120", "12"), 3);
        due("shared by the end of both", sizeOn("f0", "f00"), 4);
        due("twelve others", sizeOn("111111111111", "222222222222"), 13);
    }

    private static void overwrite(TreeRevisions x, int p, String text, int revision) {
        x.begin(0);
        write(x, 0, p, text);
        commit(x, 0, revision);
    }

    /** Commits one write of a text of its own to path 1. */
    private static void next(TreeRevisions x, int revision) {
        overwrite(x, 1, "9" + Integer.toHexString(revision), revision);
    }

    private static void chains() {
        TreeRevisions x = new TreeRevisions();
        x.begin(0);
        x.make(0, 1, false);
        write(x, 0, 1, "91");
        commit(x, 0, 1);
        for (int r = 2; r <= 15; r++) {
            next(x, r);
        }
        int[] bases = {NONE, 0, 0, 2, 0, 4, 4, 6, 0, 8, 8, 10, 8, 12, 12};
        int[] chains = {1, 2, 2, 3, 2, 3, 3, 4, 2, 3, 3, 4, 3, 4, 4};
        for (int k = 0; k < 15; k++) {
            due("base of " + k, x.stored(k, 0), bases[k]);
            due("chain of " + k, x.stored(k, 1), chains[k]);
        }
    }

    private static void ancestorsOfCopies() {
        TreeRevisions x = new TreeRevisions();
        x.begin(0);
        x.make(0, 1, false);
        x.make(0, 2, false);
        write(x, 0, 1, "91");
        commit(x, 0, 1);
        for (int r = 2; r <= 8; r++) {
            next(x, r);
        }
        due("chain of the last", x.stored(7, 1), 4);
        overwrite(x, 2, "98", 9);
        due("equal text with a long chain", x.representation(9, 2), 7);
        overwrite(x, 2, "77", 10);
        due("two steps back to one never written", x.stored(8, 0), NONE);
        overwrite(x, 2, "98", 11);
        overwrite(x, 2, "66", 12);
        due("count", x.count(12, 2), 4);
        due("four steps back to one never written", x.stored(9, 0), NONE);
        x.begin(0);
        x.copy(0, 9, 2, 3);
        write(x, 0, 3, "55");
        commit(x, 0, 13);
        due("count of the copy", x.count(13, 3), 2);
        due("two steps back through the source", x.stored(10, 0), NONE);
        x.begin(0);
        x.copy(0, 10, 2, 4);
        write(x, 0, 4, "44");
        commit(x, 0, 14);
        due("count of the other copy", x.count(14, 4), 3);
        due("one step back to the source", x.stored(11, 0), 8);
        due("its chain", x.stored(11, 1), 2);
    }

    private static void chainTooLong() {
        TreeRevisions x = new TreeRevisions();
        x.begin(0);
        x.make(0, 1, false);
        x.make(0, 2, false);
        write(x, 0, 1, "91");
        write(x, 0, 2, "1");
        commit(x, 0, 1);
        for (int r = 2; r <= 4; r++) {
            next(x, r);
        }
        due("chain of 93", x.stored(3, 1), 2);
        due("chain of 94", x.stored(4, 1), 3);
        overwrite(x, 2, "55", 5);
        due("chain 1 is short enough for count 1", x.stored(5, 0), 1);
        overwrite(x, 2, "94", 6);
        overwrite(x, 2, "66", 7);
        due("chain 3 is too long for count 3", x.stored(6, 0), NONE);
        due("the chain begins anew", x.stored(6, 1), 1);
        x.begin(0);
        x.make(0, 3, false);
        write(x, 0, 3, "93");
        commit(x, 0, 8);
        overwrite(x, 3, "77", 9);
        due("chain 2 is too long for count 1", x.stored(7, 0), NONE);
        overwrite(x, 3, "88", 10);
        due("chain 2 is too long for count 2", x.stored(8, 0), NONE);
        overwrite(x, 3, "99", 11);
        due("count 3 goes one back", x.stored(9, 0), 8);
    }

    private static void emptyAncestor() {
        TreeRevisions x = new TreeRevisions();
        x.begin(0);
        x.make(0, 1, false);
        write(x, 0, 1, "");
        commit(x, 0, 1);
        x.begin(0);
        write(x, 0, 1, "123");
        commit(x, 0, 2);
        due("an empty ancestor is no base", x.stored(0, 0), NONE);
        due("an empty text is no representation", x.representations(), 1);
    }

    private static void storedAfterMerging() {
        TreeRevisions x = sample();
        x.begin(0);
        x.begin(1);
        write(x, 0, path(1, 2), "333");
        commit(x, 0, 2);
        write(x, 1, path(2), "312");
        write(x, 1, path(1, 1, 1), "333");
        commit(x, 1, 3);
        due("base of what was merged", x.stored(3, 0), 0);
        due("text that was stored meanwhile", x.representation(3, path(1, 1, 1)), 2);
        due("taken over", x.representation(3, path(1, 2)), 2);
        due("created", x.created(3, path(1, 2)), 2);
    }

    public static void main(String[] args) {
        promise = 1;
        newObject();
        promise = 2;
        begin();
        promise = 3;
        make();
        promise = 4;
        remove();
        promise = 5;
        copy();
        promise = 6;
        write();
        promise = 7;
        commit();
        mergeOfBothSides();
        conflicts();
        failedMergeUndoesAll();
        sixteenRevisions();
        promise = 8;
        abort();
        promise = 9;
        youngest();
        asked();
        askedOfFilesAndDirectories();
        promise = 16;
        locateWrong();
        locateThroughCopies();
        locateOfCopiedRoot();
        promise = 17;
        representation();
        promise = 18;
        representations();
        promise = 19;
        storedWrong();
        sizes();
        chains();
        ancestorsOfCopies();
        chainTooLong();
        emptyAncestor();
        storedAfterMerging();
        System.out.println(wrong == 0 ? "all answers are as due" : wrong + " answers are not as due");
        if (wrong != 0) {
            System.exit(1);
        }
    }
}
