import java.util.ArrayList;
import java.util.List;

/**
 * "A call that is refused changes nothing.": for each refused call, two objects that had the same calls
 * but for that one are asked everything there is to ask, at once and after some calls more.
 */
public final class RefusedCallsTest {
    private static final int NONE = Store.NONE;
    private static final int LEAST = Integer.MIN_VALUE;
    private static final int MOST = Integer.MAX_VALUE;

    /** Calls on a store; the answer is that of the last. */
    private interface Calls {
        long on(Store x);
    }

    /** Makes stores that all had the same calls. */
    private interface State {
        Store fresh();
    }

    private record Question(String name, Calls call) {
    }

    private static final Calls NO_CALL = x -> 0;

    private static int at(int... names) {
        return Store.at(names);
    }

    private static void done(boolean answer) {
        Sentences.done("a call that leads to the state", answer);
    }

    /**
     * Revisions 0 to 2. Transaction 0 is open on revision 2 and has changes of every sort, 1 is open on
     * revision 1 and has a conflict at 1/1/1 behind what could be merged, 2 is not open.
     */
    private static Store busy() {
        Store x = Store.sample();
        done(x.begin(1));
        done(x.file(1, 1, 1, 2));
        done(x.file(1, 4));
        done(x.write(1, at(1, 1, 1), "ab"));
        done(x.begin(0));
        done(x.copy(0, 1, at(1, 1), at(3, 1)));
        done(x.directory(0, 1, 1, 4));
        done(x.write(0, at(1, 1, 1), "abcdef"));
        done(x.commit(0) == 2);
        done(x.begin(0));
        done(x.write(0, at(2), "55"));
        done(x.directory(0, 4));
        done(x.remove(0, at(1, 2)));
        done(x.copy(0, 2, at(3, 1), at(4, 1)));
        return x;
    }

    /** Sixteen revisions; transactions 0, with a change, 1, without one, and 2, with a conflict, are open. */
    private static Store complete() {
        Store x = Store.sample();
        done(x.begin(2));
        done(x.write(2, at(2), "66"));
        done(x.file(2, 1, 1, 2));
        for (int r = 2; r <= 15; r++) {
            done(x.next(at(2), "9" + Integer.toHexString(r)) == r);
        }
        done(x.begin(0));
        done(x.write(0, at(2), "77"));
        done(x.begin(1));
        return x;
    }

    private static void askAt(List<Question> all, int v, int p) {
        String where = "(" + v + ", " + p + ")";
        int a = Math.max(0, v - 1);
        all.add(new Question("kind" + where, x -> x.kind(v, p)));
        all.add(new Question("text" + where, x -> x.text(v, p)));
        all.add(new Question("length" + where, x -> x.length(v, p)));
        all.add(new Question("line" + where, x -> x.line(v, p)));
        all.add(new Question("count" + where, x -> x.count(v, p)));
        all.add(new Question("created" + where, x -> x.created(v, p)));
        all.add(new Question("representation" + where, x -> x.representation(v, p)));
        all.add(new Question("locate" + where + " in " + a, x -> x.locate(v, p, a)));
        all.add(new Question("locate" + where + " in 1", x -> x.locate(v, p, 1)));
    }

    private static List<Question> questions(int youngest) {
        List<Question> all = new ArrayList<>();
        all.add(new Question("youngest()", Store::youngest));
        all.add(new Question("representations()", Store::representations));
        for (int k = 0; k < 24; k++) {
            for (int what = 0; what <= 3; what++) {
                int which = k;
                int of = what;
                all.add(new Question("stored(" + k + ", " + what + ")", x -> x.stored(which, of)));
            }
        }
        for (int v = -4; v <= youngest + 1; v++) {
            for (int p = -1; p <= 125; p++) {
                askAt(all, v, p);
            }
        }
        return all;
    }

    /** All answers after these calls; an object is taken for no more than 512 calls, then another one. */
    private static long[] answers(State state, Calls call, Calls later, List<Question> questions) {
        long[] answers = new long[questions.size()];
        Store x = null;
        for (int i = 0; i < answers.length; i++) {
            if (x == null || x.calls() == Store.MOST_CALLS) {
                x = state.fresh();
                call.on(x);
                later.on(x);
            }
            answers[i] = questions.get(i).call().on(x);
        }
        return answers;
    }

    /** What is hidden shows later: the next line, the bases, what was written, which are open. */
    private static long goOn(Store x) {
        long answers = x.begin(2) ? 1 : 0;
        x.make(2, at(1, 4), false);
        x.write(2, at(1, 4), "12345");
        answers = answers * 31 + x.line(-3, at(1, 4));
        x.make(0, at(1, 3), true);
        answers = answers * 31 + x.line(-1, at(1, 3));
        answers = answers * 31 + x.commit(0);
        x.remove(1, at(4));
        answers = answers * 31 + x.commit(1);
        answers = answers * 31 + x.commit(2);
        return answers;
    }

    private static void changesNothing(String name, State state, Calls call, long answer) {
        Store asked = state.fresh();
        List<Question> questions = questions(asked.youngest() + 2);
        Sentences.due(name, call.on(asked), answer);
        for (Calls later : List.<Calls>of(NO_CALL, RefusedCallsTest::goOn)) {
            long[] due = answers(state, NO_CALL, later, questions);
            long[] got = answers(state, call, later, questions);
            for (int i = 0; i < due.length; i++) {
                Sentences.due(questions.get(i).name() + " after " + name, got[i], due[i]);
            }
        }
        Sentences.due("the calls that follow " + name, goOn(asked), goOn(state.fresh()));
    }

    private static long number(boolean answer) {
        return answer ? 1 : 0;
    }

    private static void begins() {
        for (int t : new int[] {LEAST, -1, 3, MOST, 0, 1}) {
            changesNothing("begin(" + t + ")", RefusedCallsTest::busy, x -> number(x.begin(t)), 0);
        }
    }

    private static void makes() {
        for (int t : new int[] {LEAST, -1, 2, 3, MOST}) {
            changesNothing("make in " + t, RefusedCallsTest::busy, x -> number(x.make(t, at(3, 4), true)), 0);
        }
        int[] paths = {LEAST, -1, 0, 5, 25, 26, 30, 125, MOST, at(1, 2, 1), at(2, 1), at(3, 4, 1), at(1), at(2),
            at(4)};
        for (int p : paths) {
            changesNothing("make a directory at " + p, RefusedCallsTest::busy, x -> number(x.make(0, p, true)), 0);
            changesNothing("make a file at " + p, RefusedCallsTest::busy, x -> number(x.make(0, p, false)), 0);
        }
    }

    private static void removes() {
        for (int t : new int[] {LEAST, -1, 2, 3, MOST}) {
            changesNothing("remove in " + t, RefusedCallsTest::busy, x -> number(x.remove(t, at(1))), 0);
        }
        for (int p : new int[] {LEAST, -1, 0, 5, 25, 26, 30, 125, MOST, at(1, 2), at(2, 1), at(3, 4)}) {
            changesNothing("remove " + p, RefusedCallsTest::busy, x -> number(x.remove(0, p)), 0);
        }
    }

    private static void copies() {
        for (int t : new int[] {LEAST, -1, 2, 3, MOST}) {
            changesNothing("copy in " + t, RefusedCallsTest::busy, x -> number(x.copy(t, 1, at(2), at(3, 4))), 0);
        }
        for (int r : new int[] {LEAST, -1, 3, MOST}) {
            changesNothing("copy from revision " + r, RefusedCallsTest::busy, x -> number(x.copy(0, r, at(2), at(3, 4))), 0);
        }
        for (int f : new int[] {LEAST, -1, 5, 26, 125, MOST, at(4), at(3, 1)}) {
            changesNothing("copy from " + f, RefusedCallsTest::busy, x -> number(x.copy(0, 1, f, at(3, 4))), 0);
        }
        for (int g : new int[] {LEAST, -1, 0, 5, 26, 125, MOST, at(2, 1), at(3, 4, 1), at(1), at(4, 1)}) {
            changesNothing("copy to " + g, RefusedCallsTest::busy, x -> number(x.copy(0, 1, at(2), g)), 0);
        }
        changesNothing("copy too deep", RefusedCallsTest::busy, x -> number(x.copy(0, 1, at(1), at(3, 4))), 0);
        changesNothing("copy of the root too deep", RefusedCallsTest::busy, x -> number(x.copy(0, 2, 0, at(3, 4))), 0);
    }

    private static void writes() {
        for (int t : new int[] {LEAST, -1, 2, 3, MOST}) {
            changesNothing("write in " + t, RefusedCallsTest::busy, x -> number(x.write(t, at(1, 1, 1), 7, 1)), 0);
        }
        for (int p : new int[] {LEAST, -1, 0, 5, 26, 125, MOST, at(1), at(1, 2), at(2, 1)}) {
            changesNothing("write to " + p, RefusedCallsTest::busy, x -> number(x.write(0, p, 7, 1)), 0);
        }
        for (int n : new int[] {LEAST, -1, 13, MOST}) {
            changesNothing("write of " + n, RefusedCallsTest::busy, x -> number(x.write(0, at(1, 1, 1), 7, n)), 0);
        }
    }

    private static void commits() {
        for (int t : new int[] {LEAST, -1, 2, 3, MOST}) {
            changesNothing("commit of " + t, RefusedCallsTest::busy, x -> x.commit(t), NONE);
        }
        changesNothing("commit with a conflict", RefusedCallsTest::busy, x -> x.commit(1), -2 - at(1, 1, 1));
        changesNothing("two commits with a conflict", RefusedCallsTest::busy, x -> x.commit(1) + x.commit(1),
                -4 - 2 * at(1, 1, 1));
        for (int t = 0; t <= 2; t++) {
            int which = t;
            changesNothing("commit of " + t + " with 16 revisions", RefusedCallsTest::complete,
                    x -> x.commit(which), NONE);
        }
    }

    private static void aborts() {
        for (int t : new int[] {LEAST, -1, 2, 3, MOST}) {
            changesNothing("abort " + t, RefusedCallsTest::busy, x -> number(x.abort(t)), 0);
        }
    }

    /** A call that only asks is never refused, but it changes nothing either. */
    private static void askings() {
        List<Question> questions = questions(4);
        long due = goOn(busy());
        Store x = busy();
        for (Question question : questions) {
            if (x.calls() > 450) {
                Sentences.due("the calls that follow the questions up to " + question.name(), goOn(x), due);
                x = busy();
            }
            question.call().on(x);
        }
        Sentences.due("the calls that follow the last questions", goOn(x), due);
    }

    public static void main(String[] args) {
        String sentence = "A call that is refused changes nothing.";
        Sentences.chapter("Terms, of begin");
        Sentences.test(sentence, RefusedCallsTest::begins);
        Sentences.chapter("Terms, of make");
        Sentences.test(sentence, RefusedCallsTest::makes);
        Sentences.chapter("Terms, of remove");
        Sentences.test(sentence, RefusedCallsTest::removes);
        Sentences.chapter("Terms, of copy");
        Sentences.test(sentence, RefusedCallsTest::copies);
        Sentences.chapter("Terms, of write");
        Sentences.test(sentence, RefusedCallsTest::writes);
        Sentences.chapter("Terms, of commit");
        Sentences.test(sentence, RefusedCallsTest::commits);
        Sentences.chapter("Terms, of abort");
        Sentences.test(sentence, RefusedCallsTest::aborts);
        Sentences.chapter("Terms, of what only asks");
        Sentences.test("A node of a revision never changes any more.", RefusedCallsTest::askings);
        Sentences.end();
    }
}
