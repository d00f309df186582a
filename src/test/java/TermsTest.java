/** The boundary cases of the chapter 'Terms' on paths, nodes, revisions, transactions and what changes a tree. */
public final class TermsTest {
    private static final int NONE = Store.NONE;
    private static final int[] NO_PATHS = {Integer.MIN_VALUE, Integer.MIN_VALUE + 1, -125, -124, -119, -6, -5, -1,
        125, 126, 127, 131, 250, 256, Integer.MAX_VALUE - 1, Integer.MAX_VALUE};

    private static int at(int... names) {
        return Store.at(names);
    }

    private static void due(String what, long got, long want) {
        Sentences.due(what, got, want);
    }

    private static void done(String what, boolean got) {
        Sentences.done(what, got);
    }

    private static void refused(String what, boolean got) {
        Sentences.refused(what, got);
    }

    /** The names of a path, null when it is not good: told from the digits, one by one. */
    private static String namesOf(int p) {
        if (p < 0 || p > 124) {
            return null;
        }
        String digits = "" + p % 5 + p / 5 % 5 + p / 25;
        String names = digits.substring(0, (digits + "0").indexOf('0'));
        return digits.equals((names + "000").substring(0, 3)) ? names : null;
    }

    /** Every good path but the root holds a directory, in the open transaction 0. */
    private static Store full() {
        Store x = new Store();
        x.begin(0);
        for (int p = 1; p < 125; p++) {
            if (namesOf(p) != null) {
                done("make " + p, x.make(0, p, true));
            }
        }
        return x;
    }

    private static void the512thCall() {
        Store x = new Store();
        x.begin(0);
        for (int i = 0; i < 254; i++) {
            x.make(0, 1, true);
            x.remove(0, 1);
        }
        x.make(0, 1, true);
        due("line of the 255th make", x.line(-1, 1), 255);
        due("commit", x.commit(0), 1);
        due("calls", x.calls(), 512);
    }

    /** The makes of 28 files and what is above them. */
    private static int[] makeFiles(Store x) {
        int[] files = new int[28];
        int made = 0;
        for (int i = 1; i <= 2; i++) {
            x.directory(0, i);
            for (int j = 1; j <= 4; j++) {
                x.directory(0, i, j);
                for (int k = 1; k <= 4 && made < files.length; k++) {
                    x.file(0, i, j, k);
                    files[made] = at(i, j, k);
                    made++;
                }
            }
        }
        return files;
    }

    private static void the512thCallWithManyTexts() {
        Store x = new Store();
        x.begin(0);
        int[] files = makeFiles(x);
        int written = 0;
        for (int r = 1; r <= 15; r++) {
            for (int p : files) {
                written++;
                x.write(0, p, written, 12);
            }
            due("commit", x.commit(0), r);
            x.begin(0);
        }
        due("representations", x.representations(), 28 * 15);
        due("one more than there are", x.stored(28 * 15, 3), NONE);
        while (x.calls() < 511) {
            x.youngest();
        }
        due("the 512th call", x.stored(28 * 15 - 1, 3), 12);
    }

    private static void firstAndLastPath() {
        Store x = new Store();
        x.begin(0);
        due("path 0", x.kind(-1, 0), 1);
        refused("path -1", x.make(0, -1, true));
        x.make(0, 4, true);
        x.make(0, 24, true);
        done("path 124", x.make(0, 124, false));
        due("path 124", x.kind(-1, 124), 2);
        refused("path 125", x.make(0, 125, false));
        due("path 125", x.kind(-1, 125), 0);
    }

    private static void digitsToTheBaseFive() {
        Store x = new Store();
        x.begin(0);
        x.make(0, 3, true);
        x.make(0, 4, true);
        refused("2/3 needs 2, not 3", x.make(0, 17, true));
        x.make(0, 2, true);
        refused("2/3/4 needs 2/3", x.make(0, 117, true));
        done("2/3", x.make(0, 17, true));
        done("2/3/4", x.make(0, 117, true));
        x.remove(0, 3);
        x.remove(0, 4);
        due("2/3 is not below 3", x.kind(-1, 17), 1);
        due("2/3/4 is not below 4", x.kind(-1, 117), 1);
        x.remove(0, 2);
        due("2/3 is below 2", x.kind(-1, 17), 0);
        due("2/3/4 is below 2", x.kind(-1, 117), 0);
    }

    private static void everyGoodPathAndNoOther() {
        Store x = new Store();
        x.begin(0);
        int made = 0;
        for (int p = 1; p < 125; p++) {
            boolean good = namesOf(p) != null;
            due("make " + p, x.make(0, p, true) ? 1 : 0, good ? 1 : 0);
            due("kind at " + p, x.kind(-1, p), good ? 1 : 0);
            made += good ? 1 : 0;
        }
        due("good paths but 0", made, 84);
    }

    private static void namesOneToFour() {
        Store x = new Store();
        x.begin(0);
        x.directory(0, 4);
        x.directory(0, 4, 4);
        for (int name = 1; name <= 4; name++) {
            due("name " + name, x.file(0, name) ? 1 : 0, name == 4 ? 0 : 1);
            due("name 4/" + name, x.file(0, 4, name) ? 1 : 0, name == 4 ? 0 : 1);
            done("name 4/4/" + name, x.file(0, 4, 4, name));
        }
        refused("4/0/1 has a 0 in front of a name", x.make(0, 4 + 25, false));
        refused("0/1 has a 0 in front of a name", x.make(0, 5, false));
        refused("0/0/1 has a 0 in front of a name", x.make(0, 25, false));
        refused("0/1/1 has a 0 in front of names", x.make(0, 30, false));
    }

    private static void rootIsThere() {
        Store x = new Store();
        due("in revision 0", x.kind(0, 0), 1);
        x.begin(2);
        due("in a transaction", x.kind(-3, 0), 1);
        x.commit(2);
        due("in revision 1", x.kind(1, 0), 1);
    }

    private static void parentHasOneNameLess() {
        for (int p = 1; p < 125; p++) {
            String names = namesOf(p);
            if (names != null) {
                Store x = new Store();
                x.begin(0);
                int parent = 0;
                for (int i = 1; i < names.length(); i++) {
                    refused("make " + p + " without its parent", x.make(0, p, false));
                    parent = pathOf(names.substring(0, i));
                    done("make " + parent, x.make(0, parent, true));
                }
                done("make " + p + " with its parent", x.make(0, p, false));
            }
        }
    }

    private static int pathOf(String names) {
        int[] each = new int[names.length()];
        for (int i = 0; i < each.length; i++) {
            each[i] = names.charAt(i) - '0';
        }
        return at(each);
    }

    private static void belowIsWhatBeginsWithTheNames() {
        for (int p = 1; p < 125; p++) {
            String names = namesOf(p);
            if (names != null) {
                Store x = full();
                x.remove(0, p);
                for (int q = 0; q < 125; q++) {
                    String others = namesOf(q);
                    boolean stays = others != null && !others.startsWith(names);
                    due("kind at " + q + " without " + p, x.kind(-1, q), stays ? 1 : 0);
                }
            }
        }
    }

    private static void depthIsTheNumberOfNames() {
        Store x = full();
        x.commit(0);
        x.begin(0);
        x.remove(0, at(2));
        x.remove(0, at(3, 1));
        x.remove(0, at(4, 1, 1));
        refused("one name below three", x.copy(0, 1, at(1, 1), at(4, 1, 1)));
        refused("two names below two", x.copy(0, 1, at(1), at(3, 1)));
        done("two names below one", x.copy(0, 1, at(1), at(2)));
        done("one name below two", x.copy(0, 1, at(1, 1), at(3, 1)));
        done("no name below three", x.copy(0, 1, at(1, 1, 1), at(4, 1, 1)));
    }

    private static void nothingAtANumberThatIsNoPath() {
        for (int p : NO_PATHS) {
            Store x = Store.sample();
            x.begin(0);
            refused("make " + p, x.make(0, p, true));
            refused("make a file " + p, x.make(0, p, false));
            refused("remove " + p, x.remove(0, p));
            refused("copy from " + p, x.copy(0, 1, p, at(4)));
            refused("copy to " + p, x.copy(0, 1, at(2), p));
            refused("write " + p, x.write(0, p, 1, 1));
            askOfNothing(x, 1, p);
            askOfNothing(x, -1, p);
            due("locate " + p, x.locate(1, p, 1), NONE);
            due("locate further " + p, x.locate(1, p, 0), NONE);
            due("representation " + p, x.representation(1, p), NONE);
        }
    }

    private static void askOfNothing(Store x, int v, int p) {
        due("kind of " + p + " in " + v, x.kind(v, p), 0);
        due("text of " + p + " in " + v, x.text(v, p), NONE);
        due("length of " + p + " in " + v, x.length(v, p), NONE);
        due("line of " + p + " in " + v, x.line(v, p), NONE);
        due("count of " + p + " in " + v, x.count(v, p), NONE);
        due("created of " + p + " in " + v, x.created(v, p), NONE);
    }

    private static void nothingAtAPathThatIsNotGood() {
        for (int p = 1; p < 125; p++) {
            if (namesOf(p) == null) {
                Store x = full();
                x.commit(0);
                x.begin(0);
                x.remove(0, at(4));
                refused("make " + p, x.make(0, p, false));
                refused("remove " + p, x.remove(0, p));
                refused("copy from " + p, x.copy(0, 1, p, at(4)));
                refused("copy to " + p, x.copy(0, 1, at(1, 1, 1), p));
                refused("write " + p, x.write(0, p, 1, 1));
                askOfNothing(x, 1, p);
                askOfNothing(x, -1, p);
                due("locate " + p, x.locate(1, p, 1), NONE);
                due("representation " + p, x.representation(1, p), NONE);
            }
        }
    }

    private static void onlyWhereTheParentHasADirectory() {
        Store x = Store.sample();
        x.begin(0);
        refused("make below a file", x.file(0, 2, 1));
        refused("copy below a file", x.copy(0, 1, at(2), at(2, 1)));
        refused("make below nothing", x.file(0, 4, 1));
        refused("copy below nothing", x.copy(0, 1, at(2), at(4, 1)));
        x.remove(0, at(1));
        due("one level below what was removed", x.kind(-1, at(1, 1)), 0);
        due("two levels below what was removed", x.kind(-1, at(1, 1, 1)), 0);
        x.file(0, 1);
        due("below a file in a directory's place", x.kind(-1, at(1, 1)), 0);
        refused("make below a file in a directory's place", x.file(0, 1, 1));
    }

    private static void rootIsAlwaysADirectory() {
        Store x = Store.sample();
        x.begin(0);
        refused("make it as a file", x.make(0, 0, false));
        refused("make it as a directory", x.make(0, 0, true));
        refused("copy a file there", x.copy(0, 1, at(2), 0));
        refused("remove it", x.remove(0, 0));
        refused("write it", x.write(0, 0, 1, 1));
        for (int p : new int[] {at(1), at(2), at(3)}) {
            x.remove(0, p);
        }
        due("with nothing below", x.kind(-1, 0), 1);
        x.commit(0);
        due("in a revision with nothing below", x.kind(2, 0), 1);
        due("it has no text", x.text(2, 0), NONE);
    }

    private static void textsOfNoneToTwelveDigits() {
        Store x = Store.sample();
        x.begin(0);
        for (int n : new int[] {Integer.MIN_VALUE, -1, 13, 14, 16, 32, Integer.MAX_VALUE}) {
            refused("write of " + n, x.write(0, at(2), 0x123L, n));
        }
        due("length after refused ones", x.length(-1, at(2)), 2);
        for (int n = 0; n <= 12; n++) {
            done("write of " + n, x.write(0, at(2), 0xfedcba987654321L, n));
            due("length of " + n, x.length(-1, at(2)), n);
            due("text of " + n, x.text(-1, at(2)), 0xfedcba987654321L % (1L << 4 * n));
        }
    }

    private static void digitsOfNoneToFifteen() {
        Store x = Store.sample();
        x.begin(0);
        for (int k = 0; k < 12; k++) {
            for (int digit = 0; digit <= 15; digit += 5) {
                x.write(0, at(2), (long) digit << 4 * k, 12);
                due("digit " + digit + " at " + k, x.text(-1, at(2)), (long) digit << 4 * k);
                due("length", x.length(-1, at(2)), 12);
            }
        }
        x.write(0, at(2), "ffffffffffff");
        due("all digits 15", x.text(-1, at(2)), 0xffffffffffffL);
        x.write(0, at(2), "000000000000");
        due("all digits 0", x.text(-1, at(2)), 0);
        due("length of zeros", x.length(-1, at(2)), 12);
        due("commit", x.commit(0), 2);
        due("twelve zeros are a text", x.stored(x.representation(2, at(2)), 3), 12);
    }

    private static void noPredecessorWithCountNought() {
        Store x = Store.sample();
        due("count", x.count(1, at(2)), 0);
        due("no base can come of it", x.stored(x.representation(1, at(2)), 0), NONE);
        x.next(at(2), "13");
        due("count of the next", x.count(2, at(2)), 1);
        due("its base is the predecessor's", x.stored(x.representation(2, at(2)), 0), x.representation(1, at(2)));
    }

    private static Store afterWriteOfTheSameText() {
        Store x = Store.sample();
        x.begin(0);
        x.begin(1);
        x.write(0, at(2), "12");
        x.commit(0);
        return x;
    }

    private static void touchedIsAnother() {
        Store x = afterWriteOfTheSameText();
        due("created", x.created(2, at(2)), 2);
        x.write(1, at(2), "12");
        due("conflict though all texts are equal", x.commit(1), -2 - at(2));
    }

    private static void madeIsAnother() {
        Store x = afterWriteOfTheSameText();
        x.remove(1, at(2));
        x.file(1, 2);
        x.write(1, at(2), "12");
        due("conflict", x.commit(1), -2 - at(2));
    }

    private static void copiedIsAnother() {
        Store x = afterWriteOfTheSameText();
        x.remove(1, at(2));
        done("copy to its own place", x.copy(1, 1, at(2), at(2)));
        due("conflict", x.commit(1), -2 - at(2));
    }

    private static void belowTheTouchedAreTheSame() {
        Store x = Store.sample();
        x.begin(0);
        x.begin(1);
        x.file(0, 1, 3);
        due("created below", x.created(-1, at(1, 1)), 1);
        due("created two below", x.created(-1, at(1, 1, 1)), 1);
        x.commit(0);
        x.write(1, at(1, 1, 1), "f");
        x.remove(1, at(1, 2));
        due("what is below does not conflict", x.commit(1), 3);
    }

    private static void belowTheCopiedAreTheSame() {
        Store x = Store.sample();
        x.begin(0);
        x.copy(0, 1, at(1), at(4));
        for (int[] below : new int[][] {{1}, {2}, {1, 1}}) {
            int from = below.length == 1 ? at(1, below[0]) : at(1, below[0], below[1]);
            int to = below.length == 1 ? at(4, below[0]) : at(4, below[0], below[1]);
            due("kind", x.kind(-1, to), x.kind(1, from));
            due("line", x.line(-1, to), x.line(1, from));
            due("count", x.count(-1, to), x.count(1, from));
            due("created", x.created(-1, to), 1);
            due("text", x.text(-1, to), x.text(1, from));
        }
        x.commit(0);
        due("created stays with the commit", x.created(2, at(4, 1, 1)), 1);
        due("that of the copy does not", x.created(2, at(4)), 2);
    }

    private static long[] answersOf(Store x, int r) {
        int[] paths = {0, at(1), at(1, 1), at(1, 1, 1), at(1, 2), at(2), at(3)};
        long[] answers = new long[paths.length * 7];
        for (int i = 0; i < paths.length; i++) {
            int p = paths[i];
            answers[7 * i] = x.kind(r, p);
            answers[7 * i + 1] = x.text(r, p);
            answers[7 * i + 2] = x.length(r, p);
            answers[7 * i + 3] = x.line(r, p);
            answers[7 * i + 4] = x.count(r, p);
            answers[7 * i + 5] = x.created(r, p);
            answers[7 * i + 6] = x.representation(r, p);
        }
        return answers;
    }

    private static void aRevisionNeverChanges() {
        Store x = Store.sample();
        x.begin(1);
        x.begin(2);
        x.next(at(1, 1, 1), "abcdef");
        long[] first = answersOf(x, 1);
        long[] second = answersOf(x, 2);
        x.write(1, at(1, 2), "99");
        x.remove(1, at(2));
        x.copy(1, 2, at(1, 1), at(3, 1));
        x.write(1, at(3, 1, 1), "0");
        due("a merge", x.commit(1), 3);
        x.write(2, at(1, 1, 1), "1");
        due("a conflict", x.commit(2), -2 - at(1, 1, 1));
        x.begin(0);
        x.remove(0, at(1));
        x.copy(0, 1, 0, at(1));
        x.abort(0);
        sameAnswers(first, answersOf(x, 1));
        sameAnswers(second, answersOf(x, 2));
    }

    private static void sameAnswers(long[] before, long[] after) {
        for (int i = 0; i < before.length; i++) {
            due("answer " + i, after[i], before[i]);
        }
    }

    private static void sixteenRevisions() {
        Store x = new Store();
        for (int r = 1; r <= 15; r++) {
            x.begin(0);
            x.make(0, 1, true);
            x.remove(0, 1);
            due("commit", x.commit(0), r);
            due("it is a tree", x.kind(r, 0), 1);
            due("the next is none", x.kind(r + 1, 0), NONE);
        }
        x.begin(0);
        due("the seventeenth", x.commit(0), NONE);
        due("revision 16", x.kind(16, 0), NONE);
        due("revision 15", x.count(15, 0), 15);
    }

    private static void revisionNought() {
        Store x = Store.sample();
        due("line", x.line(0, 0), 0);
        due("count", x.count(0, 0), 0);
        due("creation", x.created(0, 0), 0);
        for (int p = 1; p < 125; p++) {
            due("kind at " + p, x.kind(0, p), 0);
        }
    }

    private static void youngestIsTheLast() {
        Store x = new Store();
        for (int r = 0; r <= 15; r++) {
            due("youngest", x.youngest(), r);
            x.begin(0);
            x.commit(0);
        }
        due("youngest of sixteen", x.youngest(), 15);
    }

    private static void transactionsNoughtToTwo() {
        Store x = new Store();
        refused("transaction -1", x.begin(-1));
        refused("transaction 3", x.begin(3));
        for (int t = 0; t <= 2; t++) {
            done("transaction " + t, x.begin(t));
            x.make(t, 1 + t, true);
        }
        for (int t = 0; t <= 2; t++) {
            for (int p = 1; p <= 3; p++) {
                due("path " + p + " of transaction " + t, x.kind(-1 - t, p), p == 1 + t ? 1 : 0);
            }
        }
    }

    private static void theBaseIsTheYoungestAtBegin() {
        Store x = Store.sample();
        x.begin(1);
        x.next(at(2), "7");
        due("a later commit does not show", x.text(-2, at(2)), 0x21);
        x.begin(2);
        due("one begun later has it", x.text(-3, at(2)), 7);
        due("the tree is at first that of its base", x.created(-3, at(2)), 2);
        due("root", x.created(-3, 0), 2);
        due("below", x.created(-3, at(1, 1, 1)), 1);
        x.abort(1);
        x.begin(1);
        due("begun again, it has the youngest", x.text(-2, at(2)), 7);
    }

    private static void touchedKeepsLineAndKind() {
        Store x = Store.sample();
        x.begin(0);
        x.file(0, 1, 1, 2);
        for (int p : new int[] {0, at(1), at(1, 1)}) {
            due("line of " + p, x.line(-1, p), x.line(1, p));
            due("kind of " + p, x.kind(-1, p), 1);
            due("count of " + p, x.count(-1, p), x.count(1, p) + 1);
            due("created of " + p, x.created(-1, p), NONE);
        }
        x.write(0, at(2), "12");
        due("line of a file", x.line(-1, at(2)), x.line(1, at(2)));
        due("kind of a file", x.kind(-1, at(2)), 2);
        due("count of a file", x.count(-1, at(2)), 1);
    }

    private static void touchedHasNoSource() {
        Store x = Store.sample();
        x.begin(0);
        x.copy(0, 1, at(1), at(4));
        x.commit(0);
        x.begin(0);
        x.file(0, 4, 3);
        x.commit(0);
        due("created", x.created(3, at(4)), 3);
        due("followed to the revision before", x.locate(3, at(4), 2), at(4));
    }

    private static void belowTheTouchedStays() {
        Store x = Store.sample();
        x.begin(0);
        x.write(0, at(1, 2), "5");
        due("beside it", x.created(-1, at(1, 1)), 1);
        due("below what is beside it", x.text(-1, at(1, 1, 1)), Store.digits("abcde"));
        due("beside the parent", x.created(-1, at(3)), 1);
    }

    private static void theParentIsTouchedUpToTheRoot() {
        Store x = Store.sample();
        x.begin(0);
        x.write(0, at(1, 1, 1), "5");
        for (int p : new int[] {at(1, 1, 1), at(1, 1), at(1), 0}) {
            due("created of " + p, x.created(-1, p), NONE);
            due("count of " + p, x.count(-1, p), x.count(1, p) + 1);
        }
        x.begin(1);
        x.directory(1, 4);
        due("the root alone", x.count(-2, 0), x.count(1, 0) + 1);
        due("it has no parent to touch", x.created(-2, at(1)), 1);
    }

    private static void notReplacedAgain() {
        Store x = Store.sample();
        x.begin(0);
        for (int i = 0; i < 3; i++) {
            x.write(0, at(1, 1, 1), "5" + i);
            x.file(0, 1, 1, 2);
            x.remove(0, at(1, 1, 2));
        }
        for (int p : new int[] {at(1, 1, 1), at(1, 1), at(1), 0}) {
            due("count of " + p, x.count(-1, p), x.count(1, p) + 1);
        }
        x.directory(0, 4);
        x.file(0, 4, 1);
        x.write(0, at(4, 1), "1");
        due("a made directory", x.count(-1, at(4)), 0);
        due("a made file", x.count(-1, at(4, 1)), 0);
        x.copy(0, 1, at(1, 1), at(4, 2));
        x.write(0, at(4, 2, 1), "1");
        due("a copied directory", x.count(-1, at(4, 2)), 1);
    }

    private static void linesInOrder() {
        Store x = new Store();
        x.begin(0);
        x.begin(1);
        x.directory(0, 1);
        due("the first", x.line(-1, at(1)), 1);
        x.file(1, 1);
        due("of another transaction", x.line(-2, at(1)), 2);
        x.copy(0, 0, 0, at(2));
        due("of a copy", x.line(-1, at(2)), 3);
        x.directory(0, 1);
        x.make(0, 5, true);
        x.copy(0, 0, at(4), at(3));
        x.copy(0, 0, 0, at(1));
        x.file(0, 3);
        due("refused ones count not", x.line(-1, at(3)), 4);
        x.remove(0, at(3));
        x.file(0, 3);
        due("removed ones count", x.line(-1, at(3)), 5);
        x.abort(1);
        x.begin(1);
        x.file(1, 4);
        due("aborted ones count", x.line(-2, at(4)), 6);
    }

    private static void madeIsNew() {
        Store x = Store.sample();
        x.begin(0);
        x.remove(0, at(2));
        x.file(0, 2);
        due("count", x.count(-1, at(2)), 0);
        due("text", x.text(-1, at(2)), 0);
        due("length", x.length(-1, at(2)), 0);
        due("line", x.line(-1, at(2)), 7);
        x.remove(0, at(1));
        x.directory(0, 1);
        due("count of a directory", x.count(-1, at(1)), 0);
        due("nothing below it", x.kind(-1, at(1, 1)), 0);
        due("nothing two below it", x.kind(-1, at(1, 1, 1)), 0);
        due("parent", x.created(-1, 0), NONE);
    }

    private static void removedWithAllBelow() {
        Store x = Store.sample();
        x.begin(0);
        x.file(0, 1, 1, 4);
        done("a node of the revision", x.remove(0, at(1, 1, 1)));
        done("a node of the transaction", x.remove(0, at(1, 1, 4)));
        done("with nothing below", x.remove(0, at(1, 1)));
        due("beside it", x.kind(-1, at(1, 2)), 2);
        x.abort(0);
        x.begin(0);
        done("with two levels below", x.remove(0, at(1)));
        for (int p : new int[] {at(1), at(1, 1), at(1, 1, 1), at(1, 2)}) {
            due("kind of " + p, x.kind(-1, p), 0);
            due("kind in the revision of " + p, x.kind(1, p) > 0 ? 1 : 0, 1);
        }
        due("parent", x.count(-1, 0), x.count(1, 0) + 1);
    }

    private static void writtenIsTouched() {
        Store x = Store.sample();
        x.begin(0);
        x.write(0, at(1, 1, 1), "");
        due("empty", x.length(-1, at(1, 1, 1)), 0);
        due("count", x.count(-1, at(1, 1, 1)), 1);
        due("parent", x.created(-1, at(1, 1)), NONE);
        x.write(0, at(1, 1, 1), "00");
        due("zeros", x.length(-1, at(1, 1, 1)), 2);
        due("the revision", x.text(1, at(1, 1, 1)), Store.digits("abcde"));
    }

    private static void copiedIsNew() {
        Store x = Store.sample();
        x.next(at(2), "123");
        x.begin(0);
        x.copy(0, 2, at(2), at(3, 1));
        x.copy(0, 1, at(2), at(3, 2));
        x.copy(0, 0, 0, at(3, 3));
        due("line", x.line(-1, at(3, 1)), 7);
        due("count", x.count(-1, at(3, 1)), 2);
        due("text", x.text(-1, at(3, 1)), 0x321);
        due("kind", x.kind(-1, at(3, 1)), 2);
        due("created", x.created(-1, at(3, 1)), NONE);
        due("count from an earlier revision", x.count(-1, at(3, 2)), 1);
        due("text from an earlier revision", x.text(-1, at(3, 2)), 0x21);
        due("kind of a copied root", x.kind(-1, at(3, 3)), 1);
        due("count of a copied root", x.count(-1, at(3, 3)), 1);
        due("parent", x.count(-1, at(3)), 1);
        due("the copied one is not touched", x.created(-1, at(2)), 2);
        x.commit(0);
        due("source of the first", x.locate(3, at(3, 1), 2), at(2));
        due("source of the second", x.locate(3, at(3, 2), 1), at(2));
        due("the second is not in its source's next revision", x.locate(3, at(3, 2), 2), NONE);
        due("source of the third", x.locate(3, at(3, 3), 0), 0);
    }

    private static void copyIntoItself() {
        Store x = Store.sample();
        x.begin(0);
        done("a directory below itself", x.copy(0, 1, at(3), at(3, 3)));
        done("a directory with one below, below itself", x.copy(0, 1, at(1, 1), at(1, 4)));
        due("what is below it", x.line(-1, at(1, 4, 1)), x.line(1, at(1, 1, 1)));
        refused("too deep below itself", x.copy(0, 1, at(1, 1), at(1, 1, 2)));
        x.commit(0);
        x.begin(0);
        done("the first root, below the root", x.copy(0, 0, 0, at(4)));
        refused("a root of three levels, below the root", x.copy(0, 1, 0, at(4, 1)));
    }

    private static void whichNumbersAreTrees() {
        Store x = Store.sample();
        x.begin(0);
        x.begin(1);
        x.begin(2);
        x.file(0, 4);
        x.directory(1, 4);
        due("revision 0", x.kind(0, at(1)), 0);
        due("the youngest", x.kind(1, at(1)), 1);
        due("transaction 0", x.kind(-1, at(4)), 2);
        due("transaction 1", x.kind(-2, at(4)), 1);
        due("transaction 2", x.kind(-3, at(4)), 0);
        for (int v : new int[] {Integer.MIN_VALUE, -5, -4, 2, 3, 16, Integer.MAX_VALUE}) {
            askOfNoTree(x, v);
        }
        x.abort(0);
        x.commit(1);
        askOfNoTree(x, -1);
        askOfNoTree(x, -2);
        due("still open", x.kind(-3, at(1)), 1);
        due("the new youngest", x.kind(2, at(4)), 1);
    }

    private static void askOfNoTree(Store x, int v) {
        for (int p : new int[] {0, at(2), at(4), -1, 5, 125}) {
            due("kind in " + v, x.kind(v, p), NONE);
            due("text in " + v, x.text(v, p), NONE);
            due("length in " + v, x.length(v, p), NONE);
            due("line in " + v, x.line(v, p), NONE);
            due("count in " + v, x.count(v, p), NONE);
            due("created in " + v, x.created(v, p), NONE);
        }
    }

    private static void pathSentences() {
        Sentences.test("PATHS are 0 .. 124", TermsTest::firstAndLastPath);
        Sentences.test("read as three digits to the base 5, the lowest first: d1 = p % 5, d2 = p / 5 % 5, d3 = p / 25",
                TermsTest::digitsToTheBaseFive);
        Sentences.test("A path is GOOD if no digit behind a 0 is other than 0", TermsTest::everyGoodPathAndNoOther);
        Sentences.test("then its digits before the first 0 are its NAMES (1 .. 4)", TermsTest::namesOneToFour);
        Sentences.test("0 is the ROOT.", TermsTest::rootIsThere);
        Sentences.test("The PARENT of a good path but 0 is the path with one name less",
                TermsTest::parentHasOneNameLess);
        Sentences.test("what is BELOW a path are the good paths that begin with its names and have more",
                TermsTest::belowIsWhatBeginsWithTheNames);
        Sentences.test("DEPTH is the number of names.", TermsTest::depthIsTheNumberOfNames);
        Sentences.test("A number that is no path is not good, and nothing is there.",
                TermsTest::nothingAtANumberThatIsNoPath);
    }

    private static void nodeSentences() {
        Sentences.test("A TREE has a node at some good paths", TermsTest::nothingAtAPathThatIsNotGood);
        Sentences.test("at each but 0 only where its parent has a directory",
                TermsTest::onlyWhereTheParentHasADirectory);
        Sentences.test("the root is always a directory", TermsTest::rootIsAlwaysADirectory);
        Sentences.test("A file has a TEXT of 0 .. 12 DIGITS", TermsTest::textsOfNoneToTwelveDigits);
        Sentences.test("each 0 .. 15", TermsTest::digitsOfNoneToFifteen);
        Sentences.test("unless its count is 0, a PREDECESSOR", TermsTest::noPredecessorWithCountNought);
        Sentences.test("one that was touched, made or copied is another one", TermsTest::touchedIsAnother);
        Sentences.test("one that was touched, made or copied is another one", TermsTest::madeIsAnother);
        Sentences.test("one that was touched, made or copied is another one", TermsTest::copiedIsAnother);
        Sentences.test("but what is below a touched or copied directory are the same nodes as before",
                TermsTest::belowTheTouchedAreTheSame);
        Sentences.test("but what is below a touched or copied directory are the same nodes as before",
                TermsTest::belowTheCopiedAreTheSame);
        Sentences.test("A node of a revision never changes any more.", TermsTest::aRevisionNeverChanges);
    }

    private static void revisionAndTransactionSentences() {
        Sentences.test("REVISIONS 0, 1, .., at most 16 of them", TermsTest::sixteenRevisions);
        Sentences.test("Revision 0 has only a root, with line 0, count 0, creation 0.", TermsTest::revisionNought);
        Sentences.test("YOUNGEST is the last revision.", TermsTest::youngestIsTheLast);
        Sentences.test("TRANSACTIONS 0 .. 2 are open or not.", TermsTest::transactionsNoughtToTwo);
        Sentences.test("An open one has a BASE, the youngest revision when it was begun, and a tree, at first that "
                + "of its base.", TermsTest::theBaseIsTheYoungestAtBegin);
        Sentences.test("0 .. youngest is that revision, -1, -2, -3 the transaction 0, 1, 2 if it is open; other v "
                + "are no tree.", TermsTest::whichNumbersAreTrees);
    }

    private static void changeSentences() {
        Sentences.test("with the same line, kind and text, whose predecessor is that node, its count one more",
                TermsTest::touchedKeepsLineAndKind);
        Sentences.test("without a source", TermsTest::touchedHasNoSource);
        Sentences.test("what is below stays the same", TermsTest::belowTheTouchedStays);
        Sentences.test("Then the parent is touched, if there is one.", TermsTest::theParentIsTouchedUpToTheRoot);
        Sentences.test("(A node of the transaction is not replaced again.)", TermsTest::notReplacedAgain);
        Sentences.test("a new line (1, 2, .. in the order of all makes and copies of all transactions that were not "
                + "refused)", TermsTest::linesInOrder);
        Sentences.test("count 0, an empty text; its parent is touched", TermsTest::madeIsNew);
        Sentences.test("the node and all below are no more; its parent is touched", TermsTest::removedWithAllBelow);
        Sentences.test("the path is touched, its text becomes the digits", TermsTest::writtenIsTouched);
        Sentences.test("of the same kind and text, whose predecessor is that node, count one more, with source r "
                + "and f", TermsTest::copiedIsNew);
        Sentences.test("below it are the same nodes as below f; g's parent is touched", TermsTest::copyIntoItself);
    }

    public static void main(String[] args) {
        Sentences.chapter("What it is");
        Sentences.test("An object is used for at most 512 calls after it has been made", TermsTest::the512thCall);
        Sentences.test("An object is used for at most 512 calls after it has been made",
                TermsTest::the512thCallWithManyTexts);
        Sentences.chapter("Terms");
        pathSentences();
        nodeSentences();
        revisionAndTransactionSentences();
        changeSentences();
        Sentences.end();
    }
}
