import java.util.ArrayList;
import java.util.List;

/**
 * "A call that is refused changes nothing.": for each refused call, two objects that had the same calls
 * but for that one are asked everything there is to ask, at once and after some calls more.
 */
public final class RefusedCallsTest {
    private static final int NONE = Store.NONE;
    private static final int LEAST = Integer.MIN_VALUE;
    private static final int MOST = Integer.MAX_VALUE;
    private static final int[] NOT_OPEN = {LEAST, -1, 2, 3, MOST};

    /** Where nothing can be made: not good, the root, below a file or nothing, on a node. */
    private static final int[] NO_PLACE = {LEAST, -1, 0, 5, 25, 26, 30, 125, MOST, at(2, 1), at(1, 2, 1), at(3, 4, 1),
        at(1), at(1, 1), at(1, 1, 1), at(2), at(3), at(3, 1), at(3, 1, 1), at(4, 1)};

    /** Calls on a store; the answer is that of the last. */
    private interface Calls {
        long on(Store x);
    }

    private interface Change {
        boolean on(Store x);
    }

    /** Makes stores that all had the same calls. */
    private interface State {
        Store fresh();
    }

    private record Question(String name, Calls call) {
    }

    private static final Calls NO_CALL = x -> 0;

    private static int at(int... names) {
        return Store.at(names);
    }

    private static void done(boolean answer) {
        Sentences.done("a call that leads to the state", answer);
    }

    /**
     * Revisions 0 to 2. Transaction 0 is open on revision 2 without a change, 1 is open on revision 1 and
     * has a conflict at 1/1/1 behind what could be merged, 2 is not open.
     */
    private static Store calm() {
        Store x = Store.sample();
        done(x.begin(1));
        done(x.file(1, 1, 1, 2));
        done(x.file(1, 4));
        done(x.write(1, at(1, 1, 1), "ab"));
        done(x.begin(0));
        done(x.copy(0, 1, at(1, 1), at(3, 1)));
        done(x.directory(0, 1, 1, 4));
        done(x.write(0, at(1, 1, 1), "abcdef"));
        done(x.commit(0) == 2);
        done(x.begin(0));
        return x;
    }

    /** The same with changes of every sort in transaction 0. */
    private static Store busy() {
        Store x = calm();
        done(x.write(0, at(2), "55"));
        done(x.directory(0, 4));
        done(x.remove(0, at(1, 2)));
        done(x.copy(0, 2, at(3, 1), at(4, 1)));
        return x;
    }

    /** Sixteen revisions; transactions 0, with a change, 1, without one, and 2, with a conflict, are open. */
    private static Store complete() {
        Store x = Store.sample();
        done(x.begin(2));
        done(x.write(2, at(2), "66"));
        done(x.file(2, 1, 1, 2));
        for (int r = 2; r <= 15; r++) {
            done(x.next(at(2), "9" + Integer.toHexString(r)) == r);
        }
        done(x.begin(0));
        done(x.write(0, at(2), "77"));
        done(x.begin(1));
        return x;
    }

    private static void askAt(List<Question> all, int v, int p) {
        String where = "(" + v + ", " + p + ")";
        int a = Math.max(0, v - 1);
        all.add(new Question("kind" + where, x -> x.kind(v, p)));
        all.add(new Question("text" + where, x -> x.text(v, p)));
        all.add(new Question("length" + where, x -> x.length(v, p)));
        all.add(new Question("line" + where, x -> x.line(v, p)));
        all.add(new Question("count" + where, x -> x.count(v, p)));
        all.add(new Question("created" + where, x -> x.created(v, p)));
        all.add(new Question("representation" + where, x -> x.representation(v, p)));
        all.add(new Question("locate" + where + " in " + a, x -> x.locate(v, p, a)));
        all.add(new Question("locate" + where + " in 1", x -> x.locate(v, p, 1)));
    }

    private static List<Question> questions(int youngest) {
        List<Question> all = new ArrayList<>();
        all.add(new Question("youngest()", Store::youngest));
        all.add(new Question("representations()", Store::representations));
        for (int k = 0; k < 24; k++) {
            for (int what = 0; what <= 3; what++) {
                int which = k;
                int of = what;
                all.add(new Question("stored(" + k + ", " + what + ")", x -> x.stored(which, of)));
            }
        }
        for (int v = -4; v <= youngest + 1; v++) {
            for (int p = -1; p <= 125; p++) {
                askAt(all, v, p);
            }
        }
        return all;
    }

    /** All answers after these calls; an object is taken for no more than 512 calls, then another one. */
    private static long[] answers(State state, Calls call, Calls later, List<Question> questions) {
        long[] answers = new long[questions.size()];
        Store x = null;
        for (int i = 0; i < answers.length; i++) {
            if (x == null || x.calls() == Store.MOST_CALLS) {
                x = state.fresh();
                call.on(x);
                later.on(x);
            }
            answers[i] = questions.get(i).call().on(x);
        }
        return answers;
    }

    /** What is hidden shows later: the next line, the bases, what was written, which are open. */
    private static long goOn(Store x) {
        long answers = x.begin(2) ? 1 : 0;
        x.make(2, at(1, 4), false);
        x.write(2, at(1, 4), "12345");
        answers = answers * 31 + x.line(-3, at(1, 4));
        x.make(0, at(1, 3), true);
        answers = answers * 31 + x.line(-1, at(1, 3));
        answers = answers * 31 + x.commit(0);
        x.remove(1, at(4));
        answers = answers * 31 + x.commit(1);
        answers = answers * 31 + x.commit(2);
        return answers;
    }

    private static void changesNothing(String name, State state, Calls call, long answer) {
        Store asked = state.fresh();
        List<Question> questions = questions(asked.youngest() + 2);
        Sentences.due(name, call.on(asked), answer);
        for (Calls later : List.<Calls>of(NO_CALL, RefusedCallsTest::goOn)) {
            long[] due = answers(state, NO_CALL, later, questions);
            long[] got = answers(state, call, later, questions);
            for (int i = 0; i < due.length; i++) {
                Sentences.due(questions.get(i).name() + " after " + name, got[i], due[i]);
            }
        }
        Sentences.due("the calls that follow " + name, goOn(asked), goOn(state.fresh()));
    }

    /** The call is refused, whether the transaction has touched what it would touch or not. */
    private static void refused(String name, Change change) {
        Calls call = x -> change.on(x) ? 1 : 0;
        changesNothing(name + " (calm)", RefusedCallsTest::calm, call, 0);
        changesNothing(name + " (busy)", RefusedCallsTest::busy, call, 0);
    }

    private static void begins() {
        for (int t : new int[] {LEAST, -1, 3, MOST, 0, 1}) {
            refused("begin(" + t + ")", x -> x.begin(t));
        }
    }

    private static void makes() {
        for (int t : NOT_OPEN) {
            refused("make in " + t, x -> x.make(t, at(3, 4), true));
        }
        for (int p : NO_PLACE) {
            refused("make a directory at " + p, x -> x.make(0, p, true));
            refused("make a file at " + p, x -> x.make(0, p, false));
        }
    }

    private static void removes() {
        for (int t : NOT_OPEN) {
            refused("remove in " + t, x -> x.remove(t, at(1)));
        }
        for (int p : new int[] {LEAST, -1, 0, 5, 25, 26, 30, 125, MOST, at(2, 1), at(3, 4), at(1, 2, 1), at(4, 2)}) {
            refused("remove " + p, x -> x.remove(0, p));
        }
    }

    private static void copies() {
        for (int t : NOT_OPEN) {
            refused("copy in " + t, x -> x.copy(t, 1, at(2), at(3, 4)));
        }
        for (int r : new int[] {LEAST, -1, 3, MOST}) {
            refused("copy from revision " + r, x -> x.copy(0, r, at(2), at(3, 4)));
        }
        for (int f : new int[] {LEAST, -1, 5, 26, 125, MOST, at(4), at(3, 1)}) {
            refused("copy from " + f, x -> x.copy(0, 1, f, at(3, 4)));
        }
        for (int g : NO_PLACE) {
            refused("copy to " + g, x -> x.copy(0, 1, at(2), g));
        }
        refused("copy too deep", x -> x.copy(0, 1, at(1), at(3, 4)));
        refused("copy of the root too deep", x -> x.copy(0, 2, 0, at(3, 4)));
    }

    private static void writes() {
        for (int t : NOT_OPEN) {
            refused("write in " + t, x -> x.write(t, at(1, 1, 1), 7, 1));
        }
        for (int p : new int[] {LEAST, -1, 0, 5, 26, 125, MOST, at(1), at(1, 1), at(3, 1), at(2, 1), at(4)}) {
            refused("write to " + p, x -> x.write(0, p, 7, 1));
        }
        for (int n : new int[] {LEAST, -1, 13, MOST}) {
            refused("write of " + n, x -> x.write(0, at(1, 1, 1), 7, n));
            refused("write of " + n + " deeper", x -> x.write(0, at(3, 1, 1), 7, n));
        }
    }

    private static void commits() {
        for (int t : NOT_OPEN) {
            changesNothing("commit of " + t, RefusedCallsTest::busy, x -> x.commit(t), NONE);
        }
        for (int t = 0; t <= 2; t++) {
            int which = t;
            changesNothing("commit of " + t + " with 16 revisions", RefusedCallsTest::complete,
                    x -> x.commit(which), NONE);
        }
    }

    private static void commitsWithAConflict() {
        int conflict = -2 - at(1, 1, 1);
        changesNothing("a conflict (calm)", RefusedCallsTest::calm, x -> x.commit(1), conflict);
        changesNothing("a conflict (busy)", RefusedCallsTest::busy, x -> x.commit(1), conflict);
        changesNothing("a conflict twice", RefusedCallsTest::busy, x -> x.commit(1) + x.commit(1), 2 * conflict);
    }

    private static void aborts() {
        for (int t : NOT_OPEN) {
            refused("abort " + t, x -> x.abort(t));
        }
    }

    /** A call that only asks is never refused, but it changes nothing either. */
    private static void askings() {
        List<Question> questions = questions(4);
        long due = goOn(busy());
        Store x = busy();
        for (Question question : questions) {
            if (x.calls() > 450) {
                Sentences.due("the calls that follow the questions up to " + question.name(), goOn(x), due);
                x = busy();
            }
            question.call().on(x);
        }
        Sentences.due("the calls that follow the last questions", goOn(x), due);
    }

    public static void main(String[] args) {
        String sentence = "A call that is refused changes nothing.";
        Sentences.chapter("Terms, of begin");
        Sentences.test(sentence, RefusedCallsTest::begins);
        Sentences.chapter("Terms, of make");
        Sentences.test(sentence, RefusedCallsTest::makes);
        Sentences.chapter("Terms, of remove");
        Sentences.test(sentence, RefusedCallsTest::removes);
        Sentences.chapter("Terms, of copy");
        Sentences.test(sentence, RefusedCallsTest::copies);
        Sentences.chapter("Terms, of write");
        Sentences.test(sentence, RefusedCallsTest::writes);
        Sentences.chapter("Terms, of commit");
        Sentences.test(sentence, RefusedCallsTest::commits);
        Sentences.test("the transaction stays open, as it was before the commit",
                RefusedCallsTest::commitsWithAConflict);
        Sentences.chapter("Terms, of abort");
        Sentences.test(sentence, RefusedCallsTest::aborts);
        Sentences.chapter("Terms, of what only asks");
        Sentences.test("A node of a revision never changes any more.", RefusedCallsTest::askings);
        Sentences.end();
    }
}
