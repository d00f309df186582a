/** Promise 16, clause by clause. */
public final class LocateTest {
    private static final int NONE = Store.NONE;
    private static final int LEAST = Integer.MIN_VALUE;
    private static final int MOST = Integer.MAX_VALUE;

    private static int at(int... names) {
        return Store.at(names);
    }

    private static void due(String what, long got, long want) {
        Sentences.due(what, got, want);
    }

    /** The sample and, as revision 2, a copy of its directory 1 at 4. */
    private static Store copied() {
        Store x = Store.sample();
        x.begin(0);
        x.copy(0, 1, at(1), at(4));
        due("commit", x.commit(0), 2);
        return x;
    }

    private static void noRevision() {
        Store x = copied();
        x.begin(0);
        for (int no : new int[] {LEAST, -3, -2, -1, 3, 4, 15, 16, MOST}) {
            due("from " + no, x.locate(no, 0, 0), NONE);
            due("to " + no, x.locate(2, 0, no), NONE);
            due("from and to " + no, x.locate(no, 0, no), NONE);
        }
    }

    private static void toALaterRevision() {
        Store x = copied();
        due("one later", x.locate(1, 0, 2), NONE);
        due("one later from 0", x.locate(0, 0, 1), NONE);
        due("the same place in both", x.locate(1, at(2), 2), NONE);
        due("two later", x.locate(0, 0, 2), NONE);
    }

    private static void noNode() {
        Store x = copied();
        due("nothing", x.locate(2, at(3, 1), 2), NONE);
        due("nothing yet", x.locate(1, at(4), 1), NONE);
        due("below a file", x.locate(2, at(2, 1), 1), NONE);
        for (int p : new int[] {LEAST, -125, -1, 5, 25, 26, 30, 125, 126, 131, 250, MOST}) {
            due("at " + p, x.locate(2, p, 2), NONE);
            due("at " + p + " further back", x.locate(2, p, 1), NONE);
        }
    }

    private static void itself() {
        Store x = copied();
        due("root of revision 0", x.locate(0, 0, 0), 0);
        due("file", x.locate(2, at(1, 1, 1), 2), at(1, 1, 1));
        due("copy in its own revision", x.locate(2, at(4), 2), at(4));
        due("below a copy in its own revision", x.locate(2, at(4, 1, 1), 2), at(4, 1, 1));
    }

    private static void pItselfOrAPathAbove() {
        Store x = copied();
        due("p itself", x.locate(2, at(4), 1), at(1));
        due("one above", x.locate(2, at(4, 1), 1), at(1, 1));
        due("one above, the other name", x.locate(2, at(4, 2), 1), at(1, 2));
        due("two above", x.locate(2, at(4, 1, 1), 1), at(1, 1, 1));
        due("none", x.locate(2, at(1, 1, 1), 1), at(1, 1, 1));
        due("below only is not above", x.locate(2, 0, 1), 0);
    }

    private static void onlyWithTheCreationOfThatRevision() {
        Store x = copied();
        x.next(at(2), "7");
        due("the copy is still there", x.locate(3, at(4), 2), at(4));
        due("below it", x.locate(3, at(4, 1), 2), at(4, 1));
        due("and further back", x.locate(3, at(4, 1), 1), at(1, 1));
        x.begin(0);
        x.copy(0, 3, at(4, 1), at(3, 1));
        due("commit", x.commit(0), 4);
        x.begin(0);
        x.copy(0, 4, at(3), at(3, 2));
        due("below a copy of a copy", x.kind(-1, at(3, 2)), 0);
        x.remove(0, at(4));
        x.copy(0, 4, at(3), at(4));
        due("commit", x.commit(0), 5);
        due("an older copy below a newer one", x.locate(5, at(4, 1, 1), 4), at(3, 1, 1));
        due("an older copy below a newer one, further back", x.locate(5, at(4, 1, 1), 3), at(4, 1, 1));
        due("an older copy below a newer one, back to the first", x.locate(5, at(4, 1, 1), 1), at(1, 1, 1));
    }

    private static void theDeepest() {
        Store x = Store.sample();
        x.begin(0);
        x.copy(0, 1, at(1), at(4));
        x.copy(0, 1, at(3), at(4, 3));
        x.copy(0, 1, at(2), at(4, 3, 1));
        x.copy(0, 1, at(2), at(4, 1, 2));
        due("commit", x.commit(0), 2);
        due("three above each other", x.locate(2, at(4, 3, 1), 1), at(2));
        due("the middle one", x.locate(2, at(4, 3), 1), at(3));
        due("the highest one", x.locate(2, at(4), 1), at(1));
        due("two levels below the highest", x.locate(2, at(4, 1, 2), 1), at(2));
        due("beside it", x.locate(2, at(4, 1, 1), 1), at(1, 1, 1));
    }

    private static void namesBehindThoseOfQ() {
        Store x = Store.sample();
        x.begin(0);
        x.copy(0, 1, at(1, 1), at(4));
        x.copy(0, 1, at(1, 1), at(3, 2));
        due("commit", x.commit(0), 2);
        due("source deeper", x.locate(2, at(4, 1), 1), at(1, 1, 1));
        due("source as deep", x.locate(2, at(3, 2, 1), 1), at(1, 1, 1));
        x.begin(0);
        x.copy(0, 2, at(4), at(3, 3));
        x.copy(0, 0, 0, at(2, 1));
        x.remove(0, at(2));
        x.copy(0, 0, 0, at(2));
        due("commit", x.commit(0), 3);
        due("source less deep", x.locate(3, at(3, 3, 1), 2), at(4, 1));
        due("source the root", x.locate(3, at(2), 0), 0);
    }

    private static void belowACopiedRoot() {
        Store x = new Store();
        x.begin(0);
        x.directory(0, 1);
        x.file(0, 1, 2);
        due("commit", x.commit(0), 1);
        x.begin(0);
        x.copy(0, 1, 0, at(3));
        due("commit", x.commit(0), 2);
        due("one below", x.locate(2, at(3, 1), 1), at(1));
        due("two below", x.locate(2, at(3, 1, 2), 1), at(1, 2));
        due("the copy", x.locate(2, at(3), 1), 0);
        due("the copy, further back", x.locate(2, at(3), 0), 0);
        due("below the copy, further back", x.locate(2, at(3, 1), 0), NONE);
    }

    private static void deeperThanThreeIsNowhere() {
        Store x = Store.sample();
        x.begin(0);
        x.copy(0, 1, at(1, 1), at(4));
        x.directory(0, 4, 2);
        x.file(0, 4, 2, 3);
        x.remove(0, at(2));
        x.directory(0, 2);
        x.copy(0, 1, at(3), at(2, 1));
        due("commit", x.commit(0), 2);
        due("a source with four names", x.locate(2, at(4, 2, 3), 1), NONE);
        x.begin(0);
        x.directory(0, 3, 1);
        x.directory(0, 3, 1, 1);
        due("commit", x.commit(0), 3);
        x.begin(0);
        x.remove(0, at(2));
        x.copy(0, 3, at(3, 1, 1), at(2));
        x.directory(0, 2, 1);
        x.file(0, 2, 1, 1);
        due("commit", x.commit(0), 4);
        due("below a source with three names", x.locate(4, at(2, 1), 3), NONE);
        due("two below a source with three names", x.locate(4, at(2, 1, 1), 3), NONE);
        due("that copy itself", x.locate(4, at(2), 3), at(3, 1, 1));
    }

    private static void noNodeOfTheLineInTheSource() {
        Store x = Store.sample();
        x.begin(0);
        x.copy(0, 1, at(1), at(4));
        x.file(0, 4, 3);
        x.remove(0, at(4, 2));
        x.file(0, 4, 2);
        x.write(0, at(4, 1, 1), "7");
        due("commit", x.commit(0), 2);
        due("nothing in the source", x.locate(2, at(4, 3), 1), NONE);
        due("another line in the source", x.locate(2, at(4, 2), 1), NONE);
        due("touched, with the line of the source", x.locate(2, at(4, 1, 1), 1), at(1, 1, 1));
        due("touched directory, with the line of the source", x.locate(2, at(4, 1), 1), at(1, 1));
    }

    private static void qItselfNeedsNoLine() {
        Store x = copied();
        due("another line", x.line(2, at(4)) == x.line(1, at(1)) ? 1 : 0, 0);
        due("found all the same", x.locate(2, at(4), 1), at(1));
        x.begin(0);
        x.remove(0, at(2));
        x.copy(0, 1, at(2), at(2));
        due("commit", x.commit(0), 3);
        due("a copy at its own place", x.locate(3, at(2), 1), at(2));
        due("a copy at its own place is not in between", x.locate(3, at(2), 2), NONE);
    }

    private static void theSourceIsBeforeA() {
        Store x = copied();
        x.next(at(2), "7");
        x.begin(0);
        x.copy(0, 1, at(2), at(3, 1));
        x.copy(0, 3, at(2), at(3, 2));
        x.copy(0, 2, at(4, 1), at(3, 3));
        due("commit", x.commit(0), 4);
        due("source two before a", x.locate(4, at(3, 1), 3), NONE);
        due("source one before a", x.locate(4, at(3, 1), 2), NONE);
        due("source is a", x.locate(4, at(3, 1), 1), at(2));
        due("source after a", x.locate(4, at(3, 2), 1), at(2));
        due("below a copy, source one before a", x.locate(4, at(3, 3, 1), 3), NONE);
        due("below a copy, source is a", x.locate(4, at(3, 3, 1), 2), at(4, 1, 1));
        due("below a copy, source after a", x.locate(4, at(3, 3, 1), 1), at(1, 1, 1));
        due("before all", x.locate(4, at(3, 3, 1), 0), NONE);
    }

    private static void sameLineInTheRevisionBefore() {
        Store x = Store.sample();
        x.next(at(1, 1, 1), "7");
        due("touched", x.locate(2, at(1, 1, 1), 1), at(1, 1, 1));
        due("not touched", x.locate(2, at(2), 1), at(2));
        due("root over all", x.locate(2, 0, 0), 0);
    }

    private static void noNodeOfTheLineInTheRevisionBefore() {
        Store x = Store.sample();
        due("nothing before", x.locate(1, at(2), 0), NONE);
        x.begin(0);
        x.remove(0, at(2));
        x.file(0, 2);
        due("commit", x.commit(0), 2);
        due("another line before", x.locate(2, at(2), 1), NONE);
        due("but in its own revision", x.locate(2, at(2), 2), at(2));
        x.begin(0);
        x.remove(0, at(3));
        due("commit", x.commit(0), 3);
        x.begin(0);
        x.directory(0, 3);
        due("commit", x.commit(0), 4);
        due("nothing right before, though there was one earlier", x.locate(4, at(3), 1), NONE);
    }

    private static void overAllRevisions() {
        Store x = Store.sample();
        for (int r = 2; r <= 15; r++) {
            x.begin(0);
            x.remove(0, at(4));
            x.copy(0, r - 1, r == 2 ? at(2) : at(4), at(4));
            due("commit", x.commit(0), r);
        }
        due("through fourteen copies", x.locate(15, at(4), 1), at(2));
        due("through thirteen copies", x.locate(15, at(4), 2), at(4));
        due("without a copy", x.locate(15, at(1, 1, 1), 1), at(1, 1, 1));
        due("root", x.locate(15, 0, 0), 0);
    }

    private static void copyOfAMerge() {
        Store x = Store.sample();
        x.begin(0);
        x.begin(1);
        x.copy(0, 1, at(2), at(4));
        x.copy(1, 1, at(1, 1), at(3, 1));
        due("commit", x.commit(0), 2);
        due("merged", x.commit(1), 3);
        due("own copy", x.locate(3, at(3, 1, 1), 1), at(1, 1, 1));
        due("own copy is not in between", x.locate(3, at(3, 1, 1), 2), NONE);
        due("copy of the youngest", x.locate(3, at(4), 2), at(4));
        due("copy of the youngest, further back", x.locate(3, at(4), 1), at(2));
    }

    public static void main(String[] args) {
        Sentences.chapter("Promise 16");
        Sentences.test("as long as r is not a", LocateTest::itself);
        Sentences.test("if p or a path above it has in r a node with a source", LocateTest::pItselfOrAPathAbove);
        Sentences.test("and the creation r", LocateTest::onlyWithTheCreationOfThatRevision);
        Sentences.test("and the creation r", LocateTest::copyOfAMerge);
        Sentences.test("the deepest of these being q with the source s, g", LocateTest::theDeepest);
        Sentences.test("p' is g with the names that p has behind those of q", LocateTest::namesBehindThoseOfQ);
        Sentences.test("p' is g with the names that p has behind those of q", LocateTest::belowACopiedRoot);
        Sentences.test("p' is g with the names that p has behind those of q", LocateTest::deeperThanThreeIsNowhere);
        Sentences.test("revision s has at p' no node of the line that p has in r, the answer is NONE",
                LocateTest::noNodeOfTheLineInTheSource);
        Sentences.test("if p is not q", LocateTest::qItselfNeedsNoLine);
        Sentences.test("r becomes s, and p becomes p'", LocateTest::overAllRevisions);
        Sentences.test("if then r is less than a, the answer is NONE", LocateTest::theSourceIsBeforeA);
        Sentences.test("if revision r - 1 has at p a node of the line that p has in r, r becomes r - 1",
                LocateTest::sameLineInTheRevisionBefore);
        Sentences.test("and if not, the answer is NONE", LocateTest::noNodeOfTheLineInTheRevisionBefore);
        Sentences.test("NONE, too, when r or a is no revision", LocateTest::noRevision);
        Sentences.test("a is greater than r", LocateTest::toALaterRevision);
        Sentences.test("or no node is at p", LocateTest::noNode);
        Sentences.end();
    }
}
