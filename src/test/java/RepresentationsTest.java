/** The boundary cases of the chapter 'Terms' on representations: which a file shows, and its base, chain and size. */
public final class RepresentationsTest {
    private static final int NONE = Store.NONE;

    /** For the counts 1 to 14, the greatest that 16 revisions allow, how many steps the ancestor is away. */
    private static final int[] STEPS = {0, 1, 2, 1, 4, 1, 2, 1, 8, 1, 2, 1, 4, 1, 2};
    private static final int[] ALLOWED = {1, 2, 2, 3, 3, 3, 3, 4, 4, 4, 4, 4, 4, 4, 4};

    /** In which revision the file of twoFiles is first stored with this chain. */
    private static final int[] REVISION_OF_CHAIN = {0, 1, 2, 4, 8};

    private static int at(int... names) {
        return Store.at(names);
    }

    private static void due(String what, long got, long want) {
        Sentences.due(what, got, want);
    }

    private static void noneForTheEmptyText() {
        Store x = Store.sample();
        x.next(at(2), "");
        due("written empty", x.representation(2, at(2)), NONE);
        due("before that", x.representation(1, at(2)), 0);
        x.begin(0);
        x.copy(0, 2, at(2), at(4));
        x.file(0, 3, 1);
        x.write(0, at(3, 1), "");
        due("commit", x.commit(0), 3);
        due("copy of an empty one", x.representation(3, at(4)), NONE);
        due("made and written empty", x.representation(3, at(3, 1)), NONE);
        due("representations", x.representations(), 2);
    }

    private static void noneForTheNeverWritten() {
        Store x = Store.sample();
        due("never written", x.representation(1, at(1, 2)), NONE);
        x.begin(0);
        x.copy(0, 1, at(1, 2), at(4));
        due("commit", x.commit(0), 2);
        due("copy of a never written one", x.representation(2, at(4)), NONE);
    }

    private static void copiedShowsThatOfItsPredecessor() {
        Store x = Store.sample();
        x.next(at(2), "13");
        x.begin(0);
        x.copy(0, 1, at(2), at(4));
        x.copy(0, 2, at(2), at(3, 1));
        x.copy(0, 1, at(1), at(3, 2));
        due("commit", x.commit(0), 3);
        due("of the earlier", x.representation(3, at(4)), 0);
        due("of the later", x.representation(3, at(3, 1)), 2);
        x.begin(0);
        x.copy(0, 3, at(4), at(3, 3));
        due("commit", x.commit(0), 4);
        due("a copy of a copy", x.representation(4, at(3, 3)), 0);
        due("no new ones", x.representations(), 3);
    }

    private static void noneIsStoredForTheEmptyText() {
        Store x = new Store();
        x.begin(0);
        x.file(0, 1);
        x.write(0, at(1), -1L, 0);
        due("commit", x.commit(0), 1);
        due("representations", x.representations(), 0);
        due("representation", x.representation(1, at(1)), NONE);
        due("stored", x.stored(0, 3), NONE);
    }

    private static void equalTextsOnce() {
        Store x = Store.sample();
        x.begin(0);
        x.write(0, at(1, 2), "12");
        x.write(0, at(2), "77");
        x.file(0, 4);
        x.write(0, at(4), "77");
        x.write(0, at(1, 1, 1), "abcde");
        due("commit", x.commit(0), 2);
        due("equal to another's earlier", x.representation(2, at(1, 2)), 0);
        due("equal to its own earlier", x.representation(2, at(1, 1, 1)), 1);
        due("first of two", x.representation(2, at(2)), 2);
        due("second of two", x.representation(2, at(4)), 2);
        due("representations", x.representations(), 3);
    }

    private static void textsOfOtherLengthsAreOthers() {
        Store x = new Store();
        x.begin(0);
        x.directory(0, 1);
        int[] files = {at(2), at(3), at(4), at(1, 1), at(1, 2), at(1, 3)};
        String[] texts = {"0", "00", "000000000000", "1", "10", "01"};
        for (int i = 0; i < files.length; i++) {
            x.make(0, files[i], false);
            x.write(0, files[i], texts[i]);
        }
        due("commit", x.commit(0), 1);
        due("representations", x.representations(), 6);
        for (int i = 0; i < files.length; i++) {
            due("representation of " + texts[i], x.representation(1, files[i]), i);
            due("digits of " + texts[i], x.stored(i, 3), texts[i].length());
        }
    }

    /**
     * File 1 is written anew in each revision, so that representations with chains 1 to 4 are there; file
     * 2 is made in the given revision and written anew in each, but at the count c - STEPS[c] it gets the
     * text of file 1 that has the given chain. The answer is the store when file 2 has come to the count c.
     */
    private static Store twoFiles(int c, int chain, int made) {
        Store x = new Store();
        for (int r = 1; r <= made + c; r++) {
            x.begin(0);
            if (r == 1) {
                x.file(0, 1);
            }
            if (r == made) {
                x.file(0, 2);
            }
            x.write(0, 1, "9" + Integer.toHexString(r));
            if (r == made + c - STEPS[c]) {
                x.write(0, 2, "9" + Integer.toHexString(REVISION_OF_CHAIN[chain]));
            } else if (r >= made) {
                x.write(0, 2, "8" + Integer.toHexString(r));
            }
            due("commit", x.commit(0), r);
        }
        return x;
    }

    private static int madeFor(int c, int chain) {
        return Math.max(1, REVISION_OF_CHAIN[chain] - (c - STEPS[c]));
    }

    private static void chainJustShortEnough() {
        for (int c = 1; c <= 14; c++) {
            int chain = ALLOWED[c] - 1;
            int made = madeFor(c, chain);
            Store x = twoFiles(c, chain, made);
            int last = x.representation(made + c, 2);
            int ancestor = x.representation(made + c - STEPS[c], 2);
            due("count", x.count(made + c, 2), c);
            due("chain of the ancestor for count " + c, x.stored(ancestor, 1), chain);
            due("base for count " + c, x.stored(last, 0), ancestor);
            due("chain for count " + c, x.stored(last, 1), chain + 1);
        }
    }

    private static void chainJustTooLong() {
        for (int c = 1; c <= 14; c++) {
            int chain = ALLOWED[c];
            int made = madeFor(c, chain);
            if (made + c <= 15) {
                Store x = twoFiles(c, chain, made);
                int last = x.representation(made + c, 2);
                int ancestor = x.representation(made + c - STEPS[c], 2);
                due("chain of the ancestor for count " + c, x.stored(ancestor, 1), chain);
                due("no base for count " + c, x.stored(last, 0), NONE);
                due("chain for count " + c, x.stored(last, 1), 1);
            }
        }
    }

    private static void ancestorOfEachCount() {
        Store x = new Store();
        x.begin(0);
        x.file(0, 1);
        x.write(0, 1, "91");
        due("commit", x.commit(0), 1);
        for (int c = 1; c <= 14; c++) {
            due("commit", x.next(1, "9" + Integer.toHexString(1 + c)), 1 + c);
            due("count", x.count(1 + c, 1), c);
            due("base for count " + c, x.stored(c, 0), c - STEPS[c]);
            due("chain for count " + c, x.stored(c, 1), x.stored(c - STEPS[c], 1) + 1);
        }
    }

    private static void chainIsOneMore() {
        Store x = twoFiles(14, 1, 1);
        int[] chains = {1, 2, 2, 3, 2, 3, 3, 4, 2, 3, 3, 4, 3, 4, 4};
        for (int c = 0; c <= 14; c++) {
            due("chain for count " + c, x.stored(x.representation(1 + c, 1), 1), chains[c]);
        }
    }

    private static void noBaseWithCountNought() {
        Store x = Store.sample();
        x.begin(0);
        x.file(0, 4);
        x.write(0, at(4), "123");
        due("commit", x.commit(0), 2);
        int k = x.representation(2, at(4));
        due("count", x.count(2, at(4)), 0);
        due("base", x.stored(k, 0), NONE);
        due("chain", x.stored(k, 1), 1);
        due("size", x.stored(k, 2), 4);
    }

    private static void noBaseOnAnAncestorWithoutOne() {
        Store x = Store.sample();
        x.next(at(1, 2), "555");
        int onNeverWritten = x.representation(2, at(1, 2));
        due("count", x.count(2, at(1, 2)), 1);
        due("base on a never written one", x.stored(onNeverWritten, 0), NONE);
        due("chain on a never written one", x.stored(onNeverWritten, 1), 1);
        x.next(at(1, 2), "556");
        int twoSteps = x.representation(3, at(1, 2));
        due("the predecessor has one, the ancestor has none", x.stored(twoSteps, 0), NONE);
        x.next(at(1, 2), "557");
        due("one step to one that has", x.stored(x.representation(4, at(1, 2)), 0), twoSteps);
        x.next(at(2), "");
        x.next(at(2), "121");
        due("two steps over an empty one", x.stored(x.representation(6, at(2)), 0), 0);
        x.next(at(2), "");
        x.next(at(2), "122");
        due("count", x.count(8, at(2)), 4);
        due("four steps to the first", x.stored(x.representation(8, at(2)), 0), 0);
        x.next(at(2), "");
        x.next(at(2), "123");
        x.next(at(2), "124");
        due("count", x.count(11, at(2)), 7);
        due("one step to one with a base", x.stored(x.representation(11, at(2)), 0),
                x.representation(10, at(2)));
    }

    private static void noBaseOnAnEmptyOne() {
        Store x = Store.sample();
        x.begin(0);
        x.file(0, 4);
        x.write(0, at(4), "");
        due("commit", x.commit(0), 2);
        x.next(at(4), "12345");
        int k = x.representation(3, at(4));
        due("count", x.count(3, at(4)), 1);
        due("base", x.stored(k, 0), NONE);
        due("chain", x.stored(k, 1), 1);
        due("size", x.stored(k, 2), 6);
    }

    private static void ancestorThroughACopy() {
        Store x = Store.sample();
        x.next(at(2), "123");
        x.begin(0);
        x.copy(0, 1, at(2), at(4));
        x.copy(0, 2, at(2), at(3, 1));
        x.write(0, at(4), "1234");
        x.write(0, at(3, 1), "12345");
        due("commit", x.commit(0), 3);
        due("one step to the source", x.stored(x.representation(3, at(4)), 0), 0);
        due("two steps, over the source", x.stored(x.representation(3, at(3, 1)), 0), 0);
    }

    /** The size of a text that is stored with the base of another, or without one. */
    private static int sizeOn(String base, String text) {
        Store x = new Store();
        x.begin(0);
        x.file(0, 1);
        if (!base.isEmpty()) {
            x.write(0, 1, base);
        }
        x.commit(0);
        x.next(1, text);
        int k = x.representation(2, 1);
        due("base of " + text, x.stored(k, 0), base.isEmpty() ? NONE : 0);
        due("digits of " + text, x.stored(k, 3), text.length());
        return x.stored(k, 2);
    }

    private static void piecesOfThreeOrMore() {
        due("a piece of two", sizeOn("12", "129"), 4);
        due("a piece of three", sizeOn("123", "1239"), 4);
        due("the base cut to two", sizeOn("123", "12"), 3);
        due("the base cut to three", sizeOn("1234", "123"), 2);
        due("a piece of eleven", sizeOn("123456789abc", "123456789ab"), 2);
        due("a piece of twelve is all there can be", sizeOn("111111111111", "11111111111"), 2);
        due("its first digit differs", sizeOn("512", "912"), 4);
        due("its middle digit differs", sizeOn("152", "192"), 4);
        due("its last digit differs", sizeOn("125", "129"), 4);
        due("the base goes on where the text ends", sizeOn("120", "12"), 3);
        due("a zero in front of the base's first digit is of no piece", sizeOn("abc", "0abc"), 4);
        due("zeros behind the base's end are no piece", sizeOn("12", "1200"), 5);
        due("zeros behind both ends are no piece", sizeOn("f0", "f00"), 4);
        due("three zeros", sizeOn("0000", "000"), 2);
    }

    private static void digitsThatDifferInOneBit() {
        for (String text : new String[] {"111", "222", "444", "888"}) {
            due("text " + text, sizeOn("000", text), 4);
        }
    }

    private static void theLongestIsPassed() {
        due("not the first that stands there", sizeOn("1239123456", "123456"), 2);
        due("not the last that stands there", sizeOn("1234569123", "123456"), 2);
        due("even if a shorter would be cheaper", sizeOn("abcd0def", "abcdef"), 5);
        due("at the base's end", sizeOn("000000000abc", "abc"), 2);
        due("at the base's beginning", sizeOn("abc000000000", "abc"), 2);
        due("again and again", sizeOn("123", "123123123123"), 8);
        due("over the base's end a new one begins", sizeOn("111", "111111111111"), 8);
    }

    private static void digitsThatArePassed() {
        due("the first alone", sizeOn("", "5"), 2);
        due("two", sizeOn("", "55"), 3);
        due("twelve", sizeOn("111111111111", "222222222222"), 13);
        due("behind a piece", sizeOn("123", "12388"), 5);
        due("in front of a piece", sizeOn("123", "88123"), 5);
        due("between two pieces", sizeOn("123", "1239123"), 6);
        due("on both sides of a piece", sizeOn("123", "9912388"), 8);
    }

    private static void theEmptyTextWithoutABase() {
        due("a repetition is no piece", sizeOn("", "111111"), 7);
        due("twelve digits", sizeOn("", "123123123123"), 13);
        due("zeros", sizeOn("", "000"), 4);
    }

    private static void showingSentences() {
        String none = "none when the text is empty or it was never written";
        String equal = "If there is a representation with that text, that is it.";
        Sentences.test(none, RepresentationsTest::noneForTheEmptyText);
        Sentences.test(none, RepresentationsTest::noneForTheNeverWritten);
        Sentences.test("a node that was touched or copied and not written shows that of its predecessor",
                RepresentationsTest::copiedShowsThatOfItsPredecessor);
        Sentences.test("if it is empty, there is none", RepresentationsTest::noneIsStoredForTheEmptyText);
        Sentences.test(equal, RepresentationsTest::equalTextsOnce);
        Sentences.test(equal, RepresentationsTest::textsOfOtherLengthsAreOthers);
    }

    private static void baseSentences() {
        String ancestor = "ANCESTOR that comes from the node by going c - (c & c - 1) times to the predecessor";
        String represented = "that one is a file with a representation";
        String allowed = "the chain of this is less than ALLOWED(c), which is 1 more than the greatest k with "
                + "2^k <= 1 + c";
        Sentences.test(ancestor, RepresentationsTest::ancestorOfEachCount);
        Sentences.test(ancestor, RepresentationsTest::ancestorThroughACopy);
        Sentences.test("if c is above 0", RepresentationsTest::noBaseWithCountNought);
        Sentences.test(represented, RepresentationsTest::noBaseOnAnAncestorWithoutOne);
        Sentences.test(represented, RepresentationsTest::noBaseOnAnEmptyOne);
        Sentences.test(allowed, RepresentationsTest::chainJustShortEnough);
        Sentences.test("its chain is then 1 more than that of the base", RepresentationsTest::chainIsOneMore);
        Sentences.test("Otherwise it has no base, and the chain is 1.", RepresentationsTest::chainJustTooLong);
    }

    private static void sizeSentences() {
        Sentences.test("of 3 digits or more that stand at that place", RepresentationsTest::piecesOfThreeOrMore);
        Sentences.test("of 3 digits or more that stand at that place", RepresentationsTest::digitsThatDifferInOneBit);
        Sentences.test("the longest is passed and costs 2", RepresentationsTest::theLongestIsPassed);
        Sentences.test("where there is none, the digit is passed, and costs 1, and 1 more if the digit before was not "
                + "passed so (or it is the first)", RepresentationsTest::digitsThatArePassed);
        Sentences.test("(the empty text without a base)", RepresentationsTest::theEmptyTextWithoutABase);
    }

    public static void main(String[] args) {
        Sentences.chapter("Terms");
        showingSentences();
        baseSentences();
        sizeSentences();
        Sentences.end();
    }
}
