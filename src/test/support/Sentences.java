/** Runs tests that each belong to one sentence of the document, and tells of which sentence does not hold. */
final class Sentences {
    /** What a test of a sentence does. */
    interface Test {
        void run();
    }

    private static String chapter = "";
    private static String sentence = "";
    private static int tests = 0;
    private static int wrong = 0;

    private Sentences() {
    }

    static void chapter(String name) {
        chapter = name;
    }

    /** The sentence stands in the document word for word, in the chapter that was named last. */
    static void test(String words, Test test) {
        sentence = words;
        tests++;
        try {
            test.run();
        } catch (RuntimeException thrown) {
            fault("threw " + thrown);
        }
    }

    private static void fault(String what) {
        wrong++;
        System.out.println(chapter + ", \"" + sentence + "\": " + what);
    }

    static void due(String what, long got, long want) {
        if (got != want) {
            fault(what + " answered " + got + ", due is " + want);
        }
    }

    static void done(String what, boolean got) {
        due(what, got ? 1 : 0, 1);
    }

    static void refused(String what, boolean got) {
        due(what, got ? 1 : 0, 0);
    }

    static void end() {
        System.out.println(tests + " tests of sentences, " + wrong + " answers are not as due");
        if (wrong != 0) {
            System.exit(1);
        }
    }
}
