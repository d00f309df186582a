/** Promises 1 to 19, clause by clause: each case that a promise lists as refused or as NONE, and its edges. */
public final class CallsTest {
    private static final int NONE = Store.NONE;
    private static final int LEAST = Integer.MIN_VALUE;
    private static final int MOST = Integer.MAX_VALUE;
    private static final int[] NO_TRANSACTIONS = {LEAST, -3, -2, -1, 3, 4, MOST};
    private static final int[] NOT_GOOD = {LEAST, -125, -1, 5, 10, 20, 25, 26, 29, 30, 50, 51, 100, 104, 105, 120,
        125, 126, 130, 131, 156, 250, MOST};

    private static int at(int... names) {
        return Store.at(names);
    }

    private static void due(String what, long got, long want) {
        Sentences.due(what, got, want);
    }

    private static void done(String what, boolean got) {
        Sentences.done(what, got);
    }

    private static void refused(String what, boolean got) {
        Sentences.refused(what, got);
    }

    /** The sample with transaction 0 open; 1 was aborted, 2 never begun. */
    private static Store open() {
        Store x = Store.sample();
        x.begin(1);
        x.abort(1);
        x.begin(0);
        return x;
    }

    private static void revisionNoughtAlone() {
        Store x = new Store();
        due("youngest", x.youngest(), 0);
        due("root", x.kind(0, 0), 1);
        due("revision 1", x.kind(1, 0), NONE);
        for (int p = 1; p < 125; p++) {
            due("kind at " + p, x.kind(0, p), 0);
        }
    }

    private static void noTransactionOpen() {
        Store x = new Store();
        for (int t = 0; t <= 2; t++) {
            due("tree of " + t, x.kind(-1 - t, 0), NONE);
            due("commit " + t, x.commit(t), NONE);
            refused("abort " + t, x.abort(t));
            refused("make in " + t, x.make(t, 1, true));
        }
    }

    private static void noRepresentation() {
        Store x = new Store();
        due("representations", x.representations(), 0);
        for (int what = 0; what <= 3; what++) {
            due("stored", x.stored(0, what), NONE);
        }
    }

    private static void objectsAreApart() {
        Store x = Store.sample();
        Store y = new Store();
        due("youngest of the other", y.youngest(), 0);
        due("representations of the other", y.representations(), 0);
        y.begin(0);
        y.file(0, 1);
        due("lines of the other", y.line(-1, at(1)), 1);
        due("transactions of the first", x.kind(-1, 0), NONE);
    }

    private static void beginOfNoTransaction() {
        Store x = new Store();
        for (int t : NO_TRANSACTIONS) {
            refused("begin " + t, x.begin(t));
        }
        done("begin 0", x.begin(0));
        done("begin 2", x.begin(2));
    }

    private static void beginOfAnOpenOne() {
        Store x = Store.sample();
        x.begin(0);
        x.file(0, 4);
        refused("begin again", x.begin(0));
        due("its tree stays", x.kind(-1, at(4)), 2);
        x.commit(0);
        done("begin a committed one", x.begin(0));
        x.abort(0);
        done("begin an aborted one", x.begin(0));
        due("its tree is the youngest", x.kind(-1, at(4)), 2);
        due("of the youngest's nodes", x.created(-1, at(4)), 2);
    }

    private static void beginWithSixteenRevisions() {
        Store x = sixteen();
        done("begin", x.begin(1));
        due("its tree", x.kind(-2, at(1)), 2);
    }

    private static void makeWhenNotOpen() {
        Store x = open();
        for (int t : NO_TRANSACTIONS) {
            refused("make in " + t, x.make(t, at(4), true));
        }
        refused("in an aborted one", x.file(1, 4));
        refused("in one never begun", x.file(2, 4));
        x.commit(0);
        refused("in a committed one", x.file(0, 4));
    }

    private static void makeWhereNotGood() {
        Store x = open();
        for (int p : NOT_GOOD) {
            refused("directory at " + p, x.make(0, p, true));
            refused("file at " + p, x.make(0, p, false));
        }
    }

    private static void makeAtTheRoot() {
        Store x = open();
        refused("directory", x.make(0, 0, true));
        refused("file", x.make(0, 0, false));
    }

    private static void makeWithoutADirectoryAbove() {
        Store x = open();
        refused("above is nothing", x.file(0, 4, 1));
        refused("above is nothing, deeper", x.file(0, 3, 1, 1));
        refused("above is a file", x.file(0, 2, 1));
        refused("above is a file, deeper", x.file(0, 1, 2, 1));
        x.remove(0, at(1, 1));
        refused("above is a directory in the base alone", x.file(0, 1, 1, 2));
        x.directory(0, 4);
        done("above is a directory in the transaction alone", x.file(0, 4, 1));
    }

    private static void makeOnANode() {
        Store x = open();
        refused("file on a file", x.file(0, 2));
        refused("directory on a file", x.directory(0, 2));
        refused("file on a directory", x.file(0, 1));
        refused("directory on a directory", x.directory(0, 1, 1));
        x.remove(0, at(2));
        done("where it was removed", x.directory(0, 2));
        refused("on a node of the transaction", x.directory(0, 2));
    }

    private static void makeInAFullTree() {
        Store x = new Store();
        x.begin(0);
        int made = 0;
        for (int p = 1; p < 125; p++) {
            made += x.make(0, p, true) ? 1 : 0;
        }
        due("all good paths but the root", made, 84);
        for (int p = 0; p <= 125; p++) {
            refused("make at " + p, x.make(0, p, true));
            refused("copy to " + p, x.copy(0, 0, 0, p));
        }
    }

    private static void removeWhenNotOpen() {
        Store x = open();
        for (int t : NO_TRANSACTIONS) {
            refused("remove in " + t, x.remove(t, at(2)));
        }
        refused("in an aborted one", x.remove(1, at(2)));
        refused("in one never begun", x.remove(2, at(2)));
        x.commit(0);
        refused("in a committed one", x.remove(0, at(2)));
        due("still there", x.kind(2, at(2)), 2);
    }

    private static void removeTheRoot() {
        Store x = open();
        refused("root", x.remove(0, 0));
        due("its kind", x.kind(-1, 0), 1);
        due("what is below", x.kind(-1, at(1, 1, 1)), 2);
        due("its node", x.created(-1, 0), 1);
    }

    private static void removeNothing() {
        Store x = open();
        refused("nothing", x.remove(0, at(4)));
        refused("nothing below a directory", x.remove(0, at(3, 1)));
        refused("nothing below a file", x.remove(0, at(2, 1)));
        for (int p : NOT_GOOD) {
            refused("remove " + p, x.remove(0, p));
        }
        done("a node", x.remove(0, at(1)));
        refused("it again", x.remove(0, at(1)));
        refused("what was below", x.remove(0, at(1, 1, 1)));
        due("nothing else is gone", x.kind(-1, at(2)), 2);
    }

    private static void copyWhenNotOpen() {
        Store x = open();
        for (int t : NO_TRANSACTIONS) {
            refused("copy in " + t, x.copy(t, 1, at(2), at(4)));
        }
        refused("in an aborted one", x.copy(1, 1, at(2), at(4)));
        refused("in one never begun", x.copy(2, 1, at(2), at(4)));
        x.commit(0);
        refused("in a committed one", x.copy(0, 1, at(2), at(4)));
    }

    private static void copyFromNoRevision() {
        Store x = open();
        for (int r : new int[] {LEAST, -2, -1, 2, 3, 15, 16, MOST}) {
            refused("from " + r, x.copy(0, r, at(2), at(4)));
            refused("the root from " + r, x.copy(0, r, 0, at(4)));
        }
        done("from revision 0", x.copy(0, 0, 0, at(4)));
        done("from the youngest", x.copy(0, 1, at(2), at(4, 1)));
    }

    private static void copyOfNothing() {
        Store x = open();
        x.file(0, 3, 1);
        refused("nothing", x.copy(0, 1, at(4), at(4)));
        refused("nothing in revision 0", x.copy(0, 0, at(2), at(4)));
        refused("a node of the transaction alone", x.copy(0, 1, at(3, 1), at(4)));
        for (int f : NOT_GOOD) {
            refused("from " + f, x.copy(0, 1, f, at(4)));
        }
        x.remove(0, at(2));
        done("a node that is gone from the transaction", x.copy(0, 1, at(2), at(4)));
    }

    private static void copyToWhereNotGood() {
        Store x = open();
        for (int g : NOT_GOOD) {
            refused("to " + g, x.copy(0, 1, at(2), g));
        }
    }

    private static void copyToTheRoot() {
        Store x = open();
        refused("a file", x.copy(0, 1, at(2), 0));
        refused("a directory", x.copy(0, 1, at(3), 0));
        refused("the root", x.copy(0, 1, 0, 0));
    }

    private static void copyWithoutADirectoryAbove() {
        Store x = open();
        refused("above is nothing", x.copy(0, 1, at(2), at(4, 1)));
        refused("above is a file", x.copy(0, 1, at(2), at(2, 1)));
        refused("above is a file, deeper", x.copy(0, 1, at(2), at(1, 2, 1)));
        x.remove(0, at(3));
        refused("above is a directory in the base alone", x.copy(0, 1, at(2), at(3, 1)));
        x.directory(0, 4);
        done("above is a directory in the transaction alone", x.copy(0, 1, at(2), at(4, 1)));
    }

    private static void copyOnANode() {
        Store x = open();
        refused("on a file", x.copy(0, 1, at(2), at(1, 2)));
        refused("on a directory", x.copy(0, 1, at(2), at(3)));
        refused("on itself", x.copy(0, 1, at(2), at(2)));
        x.file(0, 4);
        refused("on a node of the transaction", x.copy(0, 1, at(2), at(4)));
        x.remove(0, at(2));
        done("where it was removed", x.copy(0, 1, at(2), at(2)));
    }

    private static void copyTooDeep() {
        Store x = open();
        x.directory(0, 4);
        x.directory(0, 4, 1);
        refused("two levels to depth 2", x.copy(0, 1, at(1), at(3, 1)));
        refused("one level to depth 3", x.copy(0, 1, at(1, 1), at(4, 1, 1)));
        refused("a root of three levels to depth 2", x.copy(0, 1, 0, at(4, 2)));
        done("one level to depth 2", x.copy(0, 1, at(1, 1), at(3, 1)));
        done("no level to depth 3", x.copy(0, 1, at(1, 1, 1), at(4, 1, 1)));
        done("an empty directory to depth 3", x.copy(0, 1, at(3), at(4, 1, 2)));
        x.remove(0, at(2));
        refused("a root of three levels to depth 1", x.copy(0, 1, 0, at(2)));
        done("two levels to depth 1", x.copy(0, 1, at(1), at(2)));
    }

    private static void copyDeepInTheRevisionNotInTheTransaction() {
        Store x = open();
        x.remove(0, at(1, 1, 1));
        x.directory(0, 4);
        x.directory(0, 4, 1);
        refused("deep in the revision alone", x.copy(0, 1, at(1, 1), at(4, 1, 1)));
        x.directory(0, 3, 1);
        x.file(0, 3, 1, 1);
        done("deep in the transaction alone", x.copy(0, 1, at(3), at(4, 2)));
        due("what the transaction had below does not come", x.kind(-1, at(4, 2, 1)), 0);
    }

    private static void writeTheDigits() {
        Store x = open();
        done("all bits set", x.write(0, at(2), -1L, 12));
        due("twelve digits", x.text(-1, at(2)), 0xffffffffffffL);
        done("the least number", x.write(0, at(2), Long.MIN_VALUE, 12));
        due("its twelve digits", x.text(-1, at(2)), 0);
        done("more digits than n", x.write(0, at(2), 0x987654321L, 3));
        due("three of them", x.text(-1, at(2)), 0x321);
        done("fewer than n", x.write(0, at(2), 0x21L, 5));
        due("zeros behind", x.text(-1, at(2)), 0x21);
        due("five", x.length(-1, at(2)), 5);
        done("none", x.write(0, at(2), -1L, 0));
        due("no digit", x.text(-1, at(2)), 0);
        due("no length", x.length(-1, at(2)), 0);
    }

    private static void writeWhenNotOpen() {
        Store x = open();
        for (int t : NO_TRANSACTIONS) {
            refused("write in " + t, x.write(t, at(2), 1, 1));
        }
        refused("in an aborted one", x.write(1, at(2), 1, 1));
        refused("in one never begun", x.write(2, at(2), 1, 1));
        x.commit(0);
        refused("in a committed one", x.write(0, at(2), 1, 1));
        due("text", x.text(2, at(2)), 0x21);
    }

    private static void writeToNoFile() {
        Store x = open();
        refused("root", x.write(0, 0, 1, 1));
        refused("directory", x.write(0, at(1), 1, 1));
        refused("nothing", x.write(0, at(4), 1, 1));
        refused("below a file", x.write(0, at(2, 1), 1, 1));
        for (int p : NOT_GOOD) {
            refused("write to " + p, x.write(0, p, 1, 1));
        }
        x.remove(0, at(2));
        refused("removed", x.write(0, at(2), 1, 1));
        x.file(0, 4);
        done("made in the transaction", x.write(0, at(4), 1, 1));
    }

    private static void writeOfWrongLength() {
        Store x = open();
        for (int n : new int[] {LEAST, -12, -1, 13, 16, 64, MOST}) {
            refused("write of " + n, x.write(0, at(2), 1, n));
        }
        due("text", x.text(-1, at(2)), 0x21);
        done("write of 0", x.write(0, at(2), 1, 0));
        done("write of 12", x.write(0, at(2), 1, 12));
    }

    private static void commitAnswersTheNewRevision() {
        Store x = new Store();
        for (int r = 1; r <= 15; r++) {
            x.begin(r % 3);
            due("commit", x.commit(r % 3), r);
        }
    }

    private static void commitWhenNotOpen() {
        Store x = open();
        for (int t : NO_TRANSACTIONS) {
            due("commit of " + t, x.commit(t), NONE);
        }
        due("of an aborted one", x.commit(1), NONE);
        due("of one never begun", x.commit(2), NONE);
        due("of an open one", x.commit(0), 2);
        due("of a committed one", x.commit(0), NONE);
        due("youngest", x.youngest(), 2);
    }

    /** 16 revisions, a file at 1 in all from the first on; transaction 2 has been open from revision 0 on. */
    private static Store sixteen() {
        Store x = new Store();
        x.begin(2);
        x.file(2, 1);
        x.begin(0);
        x.file(0, 1);
        x.commit(0);
        for (int r = 2; r <= 15; r++) {
            x.next(at(1), "9" + Integer.toHexString(r));
        }
        return x;
    }

    private static void commitWithSixteenRevisions() {
        Store x = sixteen();
        due("youngest", x.youngest(), 15);
        x.begin(0);
        x.write(0, at(1), "777");
        x.directory(0, 2);
        for (int i = 0; i < 2; i++) {
            due("commit", x.commit(0), NONE);
            due("youngest", x.youngest(), 15);
            due("it stays open", x.text(-1, at(1)), 0x777);
            due("its nodes stay its own", x.created(-1, at(2)), NONE);
            due("no text is stored", x.representations(), 14);
        }
        done("it can be aborted", x.abort(0));
        x.begin(0);
        due("without a change", x.commit(0), NONE);
    }

    private static void commitWithSixteenRevisionsAndAConflict() {
        Store x = sixteen();
        due("NONE, not the conflict", x.commit(2), NONE);
        due("changing nothing", x.kind(-3, at(1)), 2);
        due("its count", x.count(-3, 0), 1);
        due("its line", x.line(-3, at(1)), 1);
    }

    private static void commitWithAConflict() {
        Store x = open();
        x.begin(1);
        x.begin(2);
        x.file(0, 4);
        x.file(1, 4);
        x.write(0, at(1, 1, 1), "1");
        x.write(2, at(1, 1, 1), "1");
        due("the first", x.commit(0), 2);
        due("conflict at 4", x.commit(1), -6);
        due("conflict at 1/1/1", x.commit(2), -33);
        due("youngest", x.youngest(), 2);
    }

    private static void abortLeavesNoTrace() {
        Store x = open();
        x.write(0, at(1, 1, 1), "777");
        x.remove(0, at(2));
        x.file(0, 4);
        x.copy(0, 1, at(1), at(2));
        done("abort", x.abort(0));
        due("no tree", x.kind(-1, 0), NONE);
        due("youngest", x.youngest(), 1);
        due("representations", x.representations(), 2);
        x.begin(0);
        due("removed", x.kind(-1, at(2)), 2);
        due("made", x.kind(-1, at(4)), 0);
        due("written", x.text(-1, at(1, 1, 1)), Store.digits("abcde"));
        due("root", x.count(-1, 0), 1);
        x.file(0, 4);
        due("the two lines are used up", x.line(-1, at(4)), 9);
    }

    private static void abortWhenNotOpen() {
        Store x = open();
        for (int t : NO_TRANSACTIONS) {
            refused("abort " + t, x.abort(t));
        }
        refused("an aborted one", x.abort(1));
        refused("one never begun", x.abort(2));
        x.commit(0);
        refused("a committed one", x.abort(0));
        x.begin(0);
        done("an open one", x.abort(0));
        refused("again", x.abort(0));
    }

    private static void youngestStaysWithoutACommit() {
        Store x = open();
        x.begin(1);
        x.file(0, 4);
        x.file(1, 4);
        due("begin, make", x.youngest(), 1);
        x.commit(0);
        due("commit", x.youngest(), 2);
        x.commit(1);
        due("conflict", x.youngest(), 2);
        x.abort(1);
        due("abort", x.youngest(), 2);
        x.commit(1);
        due("refused commit", x.youngest(), 2);
    }

    private static int[] noTrees() {
        return new int[] {LEAST, -100, -5, -4, -3, -2, 2, 3, 15, 16, MOST};
    }

    private static void kindOfNothing() {
        Store x = open();
        for (int v : new int[] {1, -1}) {
            due("free", x.kind(v, at(4)), 0);
            due("below a file", x.kind(v, at(2, 1)), 0);
            due("directory", x.kind(v, at(1)), 1);
            due("file", x.kind(v, at(2)), 2);
            for (int p : NOT_GOOD) {
                due("kind at " + p, x.kind(v, p), 0);
            }
        }
    }

    private static void kindInNoTree() {
        Store x = open();
        for (int v : noTrees()) {
            for (int p : new int[] {0, at(2), at(4), 5, -1, 125}) {
                due("kind in " + v + " at " + p, x.kind(v, p), NONE);
            }
        }
    }

    private static void textWithZerosBehind() {
        Store x = open();
        due("revision", x.text(1, at(1, 1, 1)), 0xedcbaL);
        due("empty", x.text(1, at(1, 2)), 0);
        x.write(0, at(2), "1f0");
        due("transaction", x.text(-1, at(2)), 0x0f1L);
        x.write(0, at(2), -1L, 1);
        due("one digit", x.text(-1, at(2)), 0xfL);
    }

    private static void textInNoTree() {
        Store x = open();
        for (int v : noTrees()) {
            due("text in " + v, x.text(v, at(2)), NONE);
        }
    }

    private static void textOfNoFile() {
        Store x = open();
        for (int v : new int[] {1, -1}) {
            due("root", x.text(v, 0), NONE);
            due("directory", x.text(v, at(1)), NONE);
            due("nothing", x.text(v, at(4)), NONE);
            for (int p : NOT_GOOD) {
                due("text at " + p, x.text(v, p), NONE);
            }
        }
    }

    private static void lengthOfTexts() {
        Store x = open();
        due("five", x.length(1, at(1, 1, 1)), 5);
        due("empty", x.length(1, at(1, 2)), 0);
        x.write(0, at(2), "000000000000");
        due("twelve", x.length(-1, at(2)), 12);
    }

    private static void lengthOfNoFile() {
        Store x = open();
        for (int v : noTrees()) {
            due("length in " + v, x.length(v, at(2)), NONE);
        }
        for (int v : new int[] {1, -1}) {
            due("root", x.length(v, 0), NONE);
            due("directory", x.length(v, at(1)), NONE);
            due("nothing", x.length(v, at(4)), NONE);
            for (int p : NOT_GOOD) {
                due("length at " + p, x.length(v, p), NONE);
            }
        }
    }

    private static void lineOfNoNode() {
        Store x = open();
        due("root", x.line(1, 0), 0);
        due("file", x.line(-1, at(2)), 5);
        for (int v : noTrees()) {
            due("line in " + v, x.line(v, 0), NONE);
        }
        for (int v : new int[] {1, -1}) {
            due("nothing", x.line(v, at(4)), NONE);
            for (int p : NOT_GOOD) {
                due("line at " + p, x.line(v, p), NONE);
            }
        }
    }

    private static void countOfNoNode() {
        Store x = open();
        due("root", x.count(1, 0), 1);
        due("file", x.count(-1, at(2)), 0);
        for (int v : noTrees()) {
            due("count in " + v, x.count(v, 0), NONE);
        }
        for (int v : new int[] {1, -1}) {
            due("nothing", x.count(v, at(4)), NONE);
            for (int p : NOT_GOOD) {
                due("count at " + p, x.count(v, p), NONE);
            }
        }
    }

    private static void createdOfNoNode() {
        Store x = open();
        due("root", x.created(0, 0), 0);
        due("file", x.created(-1, at(2)), 1);
        for (int v : noTrees()) {
            due("created in " + v, x.created(v, 0), NONE);
        }
        for (int v : new int[] {1, -1}) {
            due("nothing", x.created(v, at(4)), NONE);
            for (int p : NOT_GOOD) {
                due("created at " + p, x.created(v, p), NONE);
            }
        }
    }

    private static void createdOfATransactionsNode() {
        Store x = open();
        x.write(0, at(2), "3");
        x.directory(0, 4);
        x.copy(0, 1, at(1, 1), at(4, 1));
        due("touched", x.created(-1, at(2)), NONE);
        due("touched root", x.created(-1, 0), NONE);
        due("made", x.created(-1, at(4)), NONE);
        due("copied", x.created(-1, at(4, 1)), NONE);
        due("below the copied", x.created(-1, at(4, 1, 1)), 1);
        due("not touched", x.created(-1, at(1)), 1);
    }

    private static void representationOfNone() {
        Store x = open();
        due("never written", x.representation(1, at(1, 2)), NONE);
        x.write(0, at(2), "");
        x.commit(0);
        due("empty", x.representation(2, at(2)), NONE);
        due("written", x.representation(1, at(2)), 0);
    }

    private static void representationInNoRevision() {
        Store x = open();
        for (int r : new int[] {LEAST, -4, -3, -2, -1, 2, 3, 15, 16, MOST}) {
            due("in " + r, x.representation(r, at(2)), NONE);
        }
        due("in the youngest", x.representation(1, at(2)), 0);
        due("in revision 0", x.representation(0, at(2)), NONE);
    }

    private static void representationOfNoFile() {
        Store x = open();
        due("root", x.representation(1, 0), NONE);
        due("directory", x.representation(1, at(1)), NONE);
        due("nothing", x.representation(1, at(4)), NONE);
        for (int p : NOT_GOOD) {
            due("at " + p, x.representation(1, p), NONE);
        }
    }

    private static void representationsAreCounted() {
        Store x = new Store();
        due("none", x.representations(), 0);
        x.begin(0);
        x.file(0, 1);
        x.file(0, 2);
        x.write(0, 1, "1");
        x.write(0, 2, "1");
        due("none before the commit", x.representations(), 0);
        x.commit(0);
        due("one for both", x.representations(), 1);
        x.next(1, "");
        due("none for the empty", x.representations(), 1);
        x.next(1, "2");
        due("two", x.representations(), 2);
        x.next(1, "1");
        due("still two", x.representations(), 2);
        x.begin(0);
        x.write(0, 1, "3");
        x.abort(0);
        due("none of an aborted one", x.representations(), 2);
    }

    private static void storedOfNoRepresentation() {
        Store x = open();
        for (int k : new int[] {LEAST, -2, -1, 2, 3, MOST}) {
            for (int what = 0; what <= 3; what++) {
                due("stored(" + k + ", " + what + ")", x.stored(k, what), NONE);
            }
        }
        due("the last", x.stored(1, 3), 5);
    }

    private static void storedOfNoneOfThese() {
        Store x = open();
        for (int what : new int[] {LEAST, -2, -1, 4, 5, MOST}) {
            due("what is " + what, x.stored(0, what), NONE);
        }
    }

    private static void storedOfEach() {
        Store x = open();
        x.write(0, at(1, 1, 1), "abcde12");
        x.commit(0);
        due("base", x.stored(2, 0), 1);
        due("chain", x.stored(2, 1), 2);
        due("size", x.stored(2, 2), 5);
        due("digits", x.stored(2, 3), 7);
        due("no base", x.stored(1, 0), NONE);
        due("chain without one", x.stored(1, 1), 1);
        due("size without one", x.stored(1, 2), 6);
        due("digits without one", x.stored(1, 3), 5);
    }

    private static void changingSentences() {
        Sentences.chapter("Promise 1");
        Sentences.test("Revision 0 alone", CallsTest::revisionNoughtAlone);
        Sentences.test("no transaction open", CallsTest::noTransactionOpen);
        Sentences.test("no representation", CallsTest::noRepresentation);
        Sentences.test("Revision 0 alone, no transaction open, no representation.", CallsTest::objectsAreApart);
        Sentences.chapter("Promise 2");
        Sentences.test("refused (false) when t is not 0 .. 2", CallsTest::beginOfNoTransaction);
        Sentences.test("or is open", CallsTest::beginOfAnOpenOne);
        Sentences.test("Transaction t is begun: true", CallsTest::beginWithSixteenRevisions);
        Sentences.chapter("Promise 3");
        Sentences.test("Refused (false) when t is not open", CallsTest::makeWhenNotOpen);
        Sentences.test("p is not good or 0", CallsTest::makeWhereNotGood);
        Sentences.test("p is not good or 0", CallsTest::makeAtTheRoot);
        Sentences.test("the parent is no directory there", CallsTest::makeWithoutADirectoryAbove);
        Sentences.test("or there is a node at p", CallsTest::makeOnANode);
        Sentences.test("or there is a node at p", CallsTest::makeInAFullTree);
        Sentences.chapter("Promise 4");
        Sentences.test("Refused (false) when t is not open", CallsTest::removeWhenNotOpen);
        Sentences.test("or p is 0", CallsTest::removeTheRoot);
        Sentences.test("or no node is there", CallsTest::removeNothing);
    }

    private static void copySentences() {
        Sentences.chapter("Promise 5");
        Sentences.test("Refused (false) when t is not open", CallsTest::copyWhenNotOpen);
        Sentences.test("r is no revision", CallsTest::copyFromNoRevision);
        Sentences.test("no node is at f in it", CallsTest::copyOfNothing);
        Sentences.test("g is not good or 0", CallsTest::copyToWhereNotGood);
        Sentences.test("g is not good or 0", CallsTest::copyToTheRoot);
        Sentences.test("its parent is no directory in t", CallsTest::copyWithoutADirectoryAbove);
        Sentences.test("a node is at g in t", CallsTest::copyOnANode);
        Sentences.test("something below g would be deeper than 3", CallsTest::copyTooDeep);
        Sentences.test("something below g would be deeper than 3",
                CallsTest::copyDeepInTheRevisionNotInTheTransaction);
    }

    private static void endingSentences() {
        Sentences.chapter("Promise 6");
        Sentences.test("the n digits of which the k-th (from 0) is digits >> 4 * k & 15", CallsTest::writeTheDigits);
        Sentences.test("Refused (false) when t is not open", CallsTest::writeWhenNotOpen);
        Sentences.test("no file is at p", CallsTest::writeToNoFile);
        Sentences.test("or n is not 0 .. 12", CallsTest::writeOfWrongLength);
        Sentences.chapter("Promise 7");
        Sentences.test("Answers the new revision", CallsTest::commitAnswersTheNewRevision);
        Sentences.test("NONE, changing nothing, when t is not open", CallsTest::commitWhenNotOpen);
        Sentences.test("or there are 16 revisions", CallsTest::commitWithSixteenRevisions);
        Sentences.test("NONE, changing nothing, when t is not open or there are 16 revisions",
                CallsTest::commitWithSixteenRevisionsAndAConflict);
        Sentences.test("-2 - p when there is a conflict at path p", CallsTest::commitWithAConflict);
        Sentences.chapter("Promise 8");
        Sentences.test("Ends transaction t without a trace (but for the lines it used up): true",
                CallsTest::abortLeavesNoTrace);
        Sentences.test("refused (false) when it is not open", CallsTest::abortWhenNotOpen);
        Sentences.chapter("Promise 9");
        Sentences.test("The youngest revision.", CallsTest::youngestStaysWithoutACommit);
    }

    private static void askingSentences() {
        Sentences.chapter("Promise 10");
        Sentences.test("0 nothing, 1 a directory, 2 a file", CallsTest::kindOfNothing);
        Sentences.test("NONE when v is no tree", CallsTest::kindInNoTree);
        Sentences.chapter("Promise 11");
        Sentences.test("as in write (0 behind them)", CallsTest::textWithZerosBehind);
        Sentences.test("NONE when v is no tree", CallsTest::textInNoTree);
        Sentences.test("or no file is there", CallsTest::textOfNoFile);
        Sentences.chapter("Promise 12");
        Sentences.test("How many digits it has", CallsTest::lengthOfTexts);
        Sentences.test("NONE likewise", CallsTest::lengthOfNoFile);
        Sentences.chapter("Promise 13");
        Sentences.test("NONE when v is no tree or no node is there", CallsTest::lineOfNoNode);
        Sentences.chapter("Promise 14");
        Sentences.test("NONE likewise", CallsTest::countOfNoNode);
        Sentences.chapter("Promise 15");
        Sentences.test("NONE likewise", CallsTest::createdOfNoNode);
        Sentences.test("and for a node of a transaction", CallsTest::createdOfATransactionsNode);
        Sentences.chapter("Promise 17");
        Sentences.test("NONE when it has none", CallsTest::representationOfNone);
        Sentences.test("r is no revision", CallsTest::representationInNoRevision);
        Sentences.test("or no file is there", CallsTest::representationOfNoFile);
        Sentences.chapter("Promise 18");
        Sentences.test("How many representations there are.", CallsTest::representationsAreCounted);
        Sentences.chapter("Promise 19");
        Sentences.test("what = 0 its base (NONE without one), 1 its chain, 2 its size, 3 how many digits it has",
                CallsTest::storedOfEach);
        Sentences.test("NONE when there is no such representation", CallsTest::storedOfNoRepresentation);
        Sentences.test("or what is none of these", CallsTest::storedOfNoneOfThese);
    }

    public static void main(String[] args) {
        changingSentences();
        copySentences();
        endingSentences();
        askingSentences();
        Sentences.end();
    }
}
