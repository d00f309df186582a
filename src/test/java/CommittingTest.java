import java.util.Arrays;

/** The boundary cases of the chapter 'Terms' on committing and merging. */
public final class CommittingTest {
    private static final int NONE = Store.NONE;

    private static int at(int... names) {
        return Store.at(names);
    }

    private static void due(String what, long got, long want) {
        Sentences.due(what, got, want);
    }

    private static void done(String what, boolean got) {
        Sentences.done(what, got);
    }

    /** The sample, with transactions 0 and 1 open on it: 0 is to be committed first, 1 to be merged. */
    private static Store two() {
        Store x = Store.sample();
        x.begin(0);
        x.begin(1);
        return x;
    }

    private static void conflict(Store x, int p) {
        due("commit of the first", x.commit(0), 2);
        due("conflict", x.commit(1), -2 - p);
        due("no revision comes of it", x.youngest(), 2);
    }

    private static void merged(Store x) {
        due("commit of the first", x.commit(0), 2);
        due("commit of the second", x.commit(1), 3);
    }

    private static void noMergeOnTheYoungest() {
        Store x = Store.sample();
        x.begin(0);
        x.write(0, at(2), "7");
        due("commit", x.commit(0), 2);
        due("count of the root", x.count(2, 0), 2);
        due("what the base had stays", x.line(2, at(1, 1, 1)), 3);
    }

    private static void mergeWithTheYoungestNotTheNext() {
        Store x = two();
        x.file(0, 1, 3);
        due("first", x.commit(0), 2);
        x.begin(0);
        x.file(0, 1, 4);
        due("second", x.commit(0), 3);
        x.write(1, at(1, 2), "5");
        due("third", x.commit(1), 4);
        due("of revision 2", x.kind(4, at(1, 3)), 2);
        due("of revision 3", x.kind(4, at(1, 4)), 2);
        due("count of the directory", x.count(4, at(1)), 3);
        due("count of the root", x.count(4, 0), 4);
    }

    private static void ownStaysWhereTheYoungestIsTheBase() {
        Store x = two();
        x.directory(0, 4);
        x.write(1, at(2), "7");
        x.remove(1, at(3));
        x.remove(1, at(1));
        x.file(1, 1);
        merged(x);
        due("written", x.text(3, at(2)), 7);
        due("written is of the new revision", x.created(3, at(2)), 3);
        due("removed", x.kind(3, at(3)), 0);
        due("made in another's place", x.kind(3, at(1)), 2);
        due("below what was removed", x.kind(3, at(1, 1)), 0);
        due("of the youngest", x.created(3, at(4)), 2);
    }

    private static void theSameStays() {
        Store x = two();
        x.directory(0, 4);
        x.file(1, 3, 1);
        merged(x);
        due("a directory that none changed", x.created(3, at(1)), 1);
        due("below it", x.created(3, at(1, 1, 1)), 1);
        due("a file that none changed", x.created(3, at(2)), 1);
    }

    private static void nothingStaysNothing() {
        Store x = two();
        x.file(0, 3, 1);
        x.file(1, 3, 2);
        merged(x);
        due("nothing in all three", x.kind(3, at(4)), 0);
        due("nothing in all three, below", x.kind(3, at(3, 3)), 0);
        due("made by both sides", x.kind(3, at(3, 1)), 2);
        due("made by both sides, the other", x.kind(3, at(3, 2)), 2);
    }

    private static void theYoungestsComesWithAllBelow() {
        Store x = two();
        x.directory(0, 4);
        x.directory(0, 4, 1);
        x.file(0, 4, 1, 1);
        x.write(0, at(1, 1, 1), "9");
        x.remove(0, at(3));
        x.write(1, at(2), "7");
        merged(x);
        due("made", x.created(3, at(4)), 2);
        due("made below", x.created(3, at(4, 1)), 2);
        due("made two below", x.created(3, at(4, 1, 1)), 2);
        due("written two below", x.text(3, at(1, 1, 1)), 9);
        due("the directory above it is the youngest's", x.created(3, at(1)), 2);
        due("and was not merged", x.count(3, at(1)), 1);
        due("removed", x.kind(3, at(3)), 0);
        due("own", x.text(3, at(2)), 7);
    }

    private static void aRemovalComesWithAllBelow() {
        Store x = two();
        x.remove(0, at(1));
        x.write(1, at(2), "7");
        merged(x);
        for (int p : new int[] {at(1), at(1, 1), at(1, 1, 1), at(1, 2)}) {
            due("kind of " + p, x.kind(3, p), 0);
        }
    }

    private static void directoriesOfOneLineAreMerged() {
        Store x = two();
        x.file(0, 1, 1, 2);
        x.file(1, 1, 1, 3);
        merged(x);
        due("old", x.created(3, at(1, 1, 1)), 1);
        due("the youngest's", x.created(3, at(1, 1, 2)), 2);
        due("own", x.created(3, at(1, 1, 3)), 3);
        due("line", x.line(3, at(1, 1)), 2);
    }

    private static void conflictOfBothRemoved() {
        Store x = two();
        x.remove(0, at(2));
        x.remove(1, at(2));
        conflict(x, at(2));
    }

    private static void conflictOfBothRemovedBelow() {
        Store x = two();
        x.remove(0, at(1, 1, 1));
        x.remove(1, at(1, 1, 1));
        conflict(x, at(1, 1, 1));
    }

    private static void conflictOfBothMade() {
        for (int kinds = 0; kinds < 4; kinds++) {
            Store x = two();
            x.make(0, at(4), (kinds & 1) != 0);
            x.make(1, at(4), (kinds & 2) != 0);
            conflict(x, at(4));
        }
    }

    private static void conflictOfBothWritten() {
        Store x = two();
        x.write(0, at(1, 1, 1), "1");
        x.write(1, at(1, 1, 1), "2");
        conflict(x, at(1, 1, 1));
    }

    private static void conflictOfRemovedAndChanged() {
        Store x = two();
        x.remove(0, at(1, 1));
        x.write(1, at(1, 1, 1), "2");
        conflict(x, at(1, 1));
        x = two();
        x.write(0, at(1, 1, 1), "2");
        x.remove(1, at(1, 1));
        conflict(x, at(1, 1));
    }

    private static void conflictOfOtherLines() {
        Store x = two();
        x.remove(0, at(3));
        x.directory(0, 3);
        x.file(1, 3, 1);
        conflict(x, at(3));
        x = two();
        x.file(0, 3, 1);
        x.remove(1, at(3));
        x.copy(1, 1, at(3), at(3));
        conflict(x, at(3));
        x = two();
        x.remove(0, at(3));
        x.directory(0, 3);
        x.remove(1, at(3));
        x.directory(1, 3);
        conflict(x, at(3));
    }

    private static void conflictOfOtherKinds() {
        Store x = two();
        x.file(0, 3, 1);
        x.remove(1, at(3));
        x.file(1, 3);
        conflict(x, at(3));
        x = two();
        x.remove(0, at(2));
        x.directory(0, 2);
        x.write(1, at(2), "5");
        conflict(x, at(2));
    }

    private static void namesAscendNotPaths() {
        Store x = two();
        x.write(0, at(1, 1, 1), "1");
        x.write(0, at(2), "1");
        x.write(0, at(1, 2), "1");
        x.write(1, at(1, 1, 1), "2");
        x.write(1, at(2), "2");
        x.write(1, at(1, 2), "2");
        due("commit of the first", x.commit(0), 2);
        due("1/1/1, though 2 and 1/2 are smaller numbers", x.commit(1), -2 - at(1, 1, 1));
    }

    private static void firstNameAndLastName() {
        Store x = two();
        for (int name = 1; name <= 4; name++) {
            x.file(0, 3, name);
            x.file(1, 3, name);
        }
        due("commit of the first", x.commit(0), 2);
        for (int name = 1; name <= 4; name++) {
            due("first of those left", x.commit(1), -2 - at(3, name));
            x.remove(1, at(3, name));
        }
        due("none is left", x.commit(1), 3);
    }

    private static void conflictAtEveryPath() {
        for (int first = 1; first <= 4; first++) {
            conflictAtOnly(first);
            for (int second = 1; second <= 4; second++) {
                conflictAtOnly(first, second);
                for (int third = 1; third <= 4; third++) {
                    conflictAtOnly(first, second, third);
                }
            }
        }
    }

    /** Both sides make a file there, in directories that are otherwise empty. */
    private static void conflictAtOnly(int... names) {
        Store x = new Store();
        x.begin(0);
        for (int depth = 1; depth < names.length; depth++) {
            done("make what is above", x.directory(0, Arrays.copyOf(names, depth)));
        }
        due("base", x.commit(0), 1);
        x.begin(0);
        x.begin(1);
        done("make", x.file(0, names));
        done("make", x.file(1, names));
        due("commit of the first", x.commit(0), 2);
        due("conflict", x.commit(1), -2 - at(names));
    }

    private static void mergingEndsWithTheFirstConflict() {
        Store x = two();
        x.remove(0, at(1, 1));
        x.write(0, at(2), "5");
        x.file(0, 4);
        x.write(1, at(1, 1, 1), "6");
        x.write(1, at(2), "6");
        conflict(x, at(1, 1));
        due("a second conflict is not come to", x.commit(1), -2 - at(1, 1));
        due("what is behind is not taken over", x.kind(-2, at(4)), 0);
        due("what is below is not looked at", x.text(-2, at(1, 1, 1)), 6);
    }

    private static void theRootIsMerged() {
        Store x = two();
        x.file(0, 4);
        x.remove(1, at(2));
        merged(x);
        due("of the youngest", x.kind(3, at(4)), 2);
        due("own", x.kind(3, at(2)), 0);
        due("created", x.created(3, 0), 3);
        due("count", x.count(3, 0), 3);
        due("line", x.line(3, 0), 0);
    }

    private static void countIsOneMoreThanTheYoungests() {
        Store x = two();
        for (int r = 2; r <= 4; r++) {
            x.write(0, at(1, 1, 1), "" + r);
            due("commit", x.commit(0), r);
            x.begin(0);
        }
        x.file(1, 1, 3);
        due("count before", x.count(-2, at(1)), 1);
        due("count of the root before", x.count(-2, 0), 2);
        due("commit", x.commit(1), 5);
        due("count", x.count(5, at(1)), 4);
        due("count of the root", x.count(5, 0), 5);
        due("what was taken over keeps its count", x.count(5, at(1, 1)), 3);
        due("the youngest's stays", x.count(4, at(1)), 3);
    }

    private static void nothingToDoIfTheYoungestsRootIsTheBases() {
        Store x = two();
        due("a commit without a change", x.commit(0), 2);
        x.file(1, 3, 1);
        due("commit", x.commit(1), 3);
        due("count of the root", x.count(3, 0), 2);
        due("count of the directory", x.count(3, at(3)), 1);
        due("own", x.kind(3, at(3, 1)), 2);
        due("old", x.created(3, at(1, 1, 1)), 1);
    }

    private static void becomesTheTreeOfTheYoungest() {
        Store x = two();
        x.write(0, at(1, 1, 1), "9");
        x.remove(0, at(2));
        x.file(0, 4);
        merged(x);
        due("written", x.text(3, at(1, 1, 1)), 9);
        due("removed", x.kind(3, at(2)), 0);
        due("made", x.kind(3, at(4)), 2);
        due("the root is the youngest's", x.created(3, 0), 2);
        due("with its count", x.count(3, 0), 2);
    }

    private static void aConflictLeavesTheTransaction() {
        Store x = two();
        x.file(0, 1, 3);
        x.remove(0, at(3));
        x.write(0, at(2), "5");
        x.file(0, 4);
        x.file(1, 1, 4);
        x.write(1, at(2), "6");
        due("commit of the first", x.commit(0), 2);
        for (int i = 0; i < 2; i++) {
            due("conflict behind what could be merged", x.commit(1), -2 - at(2));
            due("not taken over", x.kind(-2, at(1, 3)), 0);
            due("not removed", x.kind(-2, at(3)), 1);
            due("not taken over behind it", x.kind(-2, at(4)), 0);
            due("own", x.kind(-2, at(1, 4)), 2);
            due("own text", x.text(-2, at(2)), 6);
            due("count of the directory", x.count(-2, at(1)), 1);
            due("count of the root", x.count(-2, 0), 2);
            due("node of the transaction", x.created(-2, at(1)), NONE);
            due("no text is stored", x.representations(), 3);
        }
        done("it is still open", x.write(1, at(1, 4), "8"));
    }

    private static void aConflictCanBeMended() {
        Store x = two();
        x.file(0, 4);
        x.file(1, 4);
        conflict(x, at(4));
        x.remove(1, at(4));
        due("commit without it", x.commit(1), 3);
        due("the youngest's", x.created(3, at(4)), 2);
        due("lines go on", nextLine(x), 9);
    }

    private static int nextLine(Store x) {
        x.begin(2);
        x.file(2, 3, 4);
        return x.line(-3, at(3, 4));
    }

    private static void theBaseStaysAfterAConflict() {
        Store x = two();
        x.write(0, at(2), "5");
        x.write(1, at(2), "6");
        conflict(x, at(2));
        x.begin(0);
        x.file(0, 4);
        due("another commit", x.commit(0), 3);
        due("the conflict is still there", x.commit(1), -2 - at(2));
    }

    private static void allNodesOfTheTransactionAreCreated() {
        Store x = Store.sample();
        x.begin(0);
        x.write(0, at(1, 1, 1), "5");
        x.copy(0, 1, at(1), at(4));
        x.directory(0, 3, 1);
        due("commit", x.commit(0), 2);
        for (int p : new int[] {0, at(1), at(1, 1), at(1, 1, 1), at(4), at(3), at(3, 1)}) {
            due("created of " + p, x.created(2, p), 2);
        }
        for (int p : new int[] {at(1, 2), at(2), at(4, 1), at(4, 1, 1), at(4, 2)}) {
            due("created of " + p, x.created(2, p), 1);
        }
    }

    private static void storedInTheOrderOfTheNumbers() {
        Store x = new Store();
        x.begin(0);
        int[] paths = {at(4, 4, 4), at(1, 1, 1), at(4, 4, 1), at(4, 3), at(1, 2), at(3), at(2)};
        for (int p : new int[] {at(1), at(1, 1), at(4), at(4, 4)}) {
            x.make(0, p, true);
        }
        for (int i = 0; i < paths.length; i++) {
            x.make(0, paths[i], false);
            x.write(0, paths[i], 1 + i, 3);
        }
        due("commit", x.commit(0), 1);
        int[] order = {at(2), at(3), at(1, 2), at(4, 3), at(1, 1, 1), at(4, 4, 1), at(4, 4, 4)};
        for (int k = 0; k < order.length; k++) {
            due("representation of " + order[k], x.representation(1, order[k]), k);
        }
    }

    private static void notStoredUnlessWrittenAfterMadeOrCopied() {
        Store x = Store.sample();
        x.begin(0);
        x.write(0, at(2), "77");
        x.remove(0, at(2));
        x.file(0, 2);
        x.write(0, at(1, 2), "88");
        x.remove(0, at(1, 2));
        x.copy(0, 1, at(2), at(1, 2));
        x.file(0, 4);
        x.write(0, at(4), "99");
        x.remove(0, at(4));
        due("commit", x.commit(0), 2);
        due("representations", x.representations(), 2);
        due("made anew", x.representation(2, at(2)), NONE);
        due("copied anew", x.representation(2, at(1, 2)), 0);
    }

    private static void storedIfWrittenAfterCopied() {
        Store x = Store.sample();
        x.begin(0);
        x.copy(0, 1, at(2), at(4));
        x.write(0, at(4), "99");
        x.file(0, 3, 1);
        x.write(0, at(3, 1), "66");
        due("none before the commit", x.representations(), 2);
        due("commit", x.commit(0), 2);
        due("representations", x.representations(), 4);
        due("copied", x.representation(2, at(4)), 2);
        due("made", x.representation(2, at(3, 1)), 3);
    }

    private static void notStoredIfOfTheYoungest() {
        Store x = two();
        x.write(0, at(1, 2), "5");
        x.write(1, at(2), "6");
        merged(x);
        due("representations", x.representations(), 4);
        due("of the youngest", x.representation(3, at(1, 2)), 2);
        due("own", x.representation(3, at(2)), 3);
    }

    private static void openNoMore() {
        Store x = two();
        x.file(0, 4);
        due("commit", x.commit(0), 2);
        due("no tree", x.kind(-1, 0), NONE);
        Sentences.refused("make", x.file(0, 3, 1));
        Sentences.refused("abort", x.abort(0));
        due("commit again", x.commit(0), NONE);
        done("begin again", x.begin(0));
        due("the other is open", x.kind(-2, at(4)), 0);
    }

    private static void aCommitWithoutAChange() {
        Store x = new Store();
        x.begin(0);
        due("commit", x.commit(0), 1);
        due("youngest", x.youngest(), 1);
        due("created of the root", x.created(1, 0), 0);
        due("count of the root", x.count(1, 0), 0);
        due("followed back", x.locate(1, 0, 0), 0);
    }

    private static void mergeSentences() {
        String stays = "if y is the same as b, t stays (also if it is the same, or nothing)";
        String taken = "else if t is the same as b, it becomes y with all below it";
        String conflict = "else (so also if y and t are both nothing) it is a CONFLICT at that path";
        String lines = "else if all three are directories and have the same line, they are merged likewise";
        String names = "for each name in ascending order";
        Sentences.test("If the base is not the youngest revision, the transaction is merged with the youngest "
                + "revision first.", CommittingTest::noMergeOnTheYoungest);
        Sentences.test("If the base is not the youngest revision, the transaction is merged with the youngest "
                + "revision first.", CommittingTest::mergeWithTheYoungestNotTheNext);
        Sentences.test(names, CommittingTest::namesAscendNotPaths);
        Sentences.test(names, CommittingTest::firstNameAndLastName);
        Sentences.test(stays, CommittingTest::ownStaysWhereTheYoungestIsTheBase);
        Sentences.test(stays, CommittingTest::theSameStays);
        Sentences.test(stays, CommittingTest::nothingStaysNothing);
        Sentences.test(taken, CommittingTest::theYoungestsComesWithAllBelow);
        Sentences.test(taken, CommittingTest::aRemovalComesWithAllBelow);
        Sentences.test(lines, CommittingTest::directoriesOfOneLineAreMerged);
        Sentences.test(lines, CommittingTest::conflictOfOtherLines);
        Sentences.test(lines, CommittingTest::conflictOfOtherKinds);
        Sentences.test(conflict, CommittingTest::conflictOfBothRemoved);
        Sentences.test(conflict, CommittingTest::conflictOfBothRemovedBelow);
        Sentences.test(conflict, CommittingTest::conflictOfBothMade);
        Sentences.test(conflict, CommittingTest::conflictOfBothWritten);
        Sentences.test(conflict, CommittingTest::conflictOfRemovedAndChanged);
        Sentences.test(conflict, CommittingTest::conflictAtEveryPath);
        Sentences.test("and merging ends", CommittingTest::mergingEndsWithTheFirstConflict);
        Sentences.test("The root is merged if its nodes are three different ones", CommittingTest::theRootIsMerged);
        Sentences.test("At the end the directory at p in Y becomes the predecessor of that in T, whose count becomes "
                + "one more than that one's.", CommittingTest::countIsOneMoreThanTheYoungests);
        Sentences.test("if Y's is the same as B's, nothing is to be done",
                CommittingTest::nothingToDoIfTheYoungestsRootIsTheBases);
        Sentences.test("if T's is the same as B's, T becomes the tree of Y",
                CommittingTest::becomesTheTreeOfTheYoungest);
    }

    private static void endSentences() {
        String fails = "With a conflict the commit fails, and the transaction stays open, as it was before the commit.";
        String written = "a file that is a node of the transaction and that was WRITTEN in it (after it was made or "
                + "copied, if it was): its text is STORED";
        Sentences.test(fails, CommittingTest::aConflictLeavesTheTransaction);
        Sentences.test(fails, CommittingTest::aConflictCanBeMended);
        Sentences.test(fails, CommittingTest::theBaseStaysAfterAConflict);
        Sentences.test("all nodes of the transaction have that revision as creation",
                CommittingTest::allNodesOfTheTransactionAreCreated);
        Sentences.test("for each path in ascending order of the numbers",
                CommittingTest::storedInTheOrderOfTheNumbers);
        Sentences.test(written, CommittingTest::notStoredUnlessWrittenAfterMadeOrCopied);
        Sentences.test(written, CommittingTest::storedIfWrittenAfterCopied);
        Sentences.test(written, CommittingTest::notStoredIfOfTheYoungest);
        Sentences.test("The transaction is open no more.", CommittingTest::openNoMore);
        Sentences.test("(A commit of a transaction that changed nothing makes a revision, too.)",
                CommittingTest::aCommitWithoutAChange);
    }

    public static void main(String[] args) {
        Sentences.chapter("Terms");
        mergeSentences();
        endSentences();
        Sentences.end();
    }
}
