/**
 * A TreeRevisions under test. It counts its calls: what comes after the 512th is free by the
 * document, so no test may rest on it.
 */
final class Store {
    static final int MOST_CALLS = 512;
    static final int NONE = TreeRevisions.NONE;

    private final TreeRevisions inner = new TreeRevisions();
    private int calls = 0;

    /** The path with these names, the first name first. */
    static int at(int... names) {
        int p = 0;
        for (int i = names.length - 1; i >= 0; i--) {
            p = p * 5 + names[i];
        }
        return p;
    }

    /** The digits of a text that is written as hexadecimal characters, the first digit first. */
    static long digits(String text) {
        long digits = 0;
        for (int i = text.length() - 1; i >= 0; i--) {
            digits = digits << 4 | Character.digit(text.charAt(i), 16);
        }
        return digits;
    }

    private TreeRevisions counted() {
        calls++;
        if (calls > MOST_CALLS) {
            throw new IllegalStateException("the test makes more than 512 calls on one object");
        }
        return inner;
    }

    int calls() {
        return calls;
    }

    boolean begin(int t) {
        return counted().begin(t);
    }

    boolean make(int t, int p, boolean directory) {
        return counted().make(t, p, directory);
    }

    boolean directory(int t, int... names) {
        return make(t, at(names), true);
    }

    boolean file(int t, int... names) {
        return make(t, at(names), false);
    }

    boolean remove(int t, int p) {
        return counted().remove(t, p);
    }

    boolean copy(int t, int r, int f, int g) {
        return counted().copy(t, r, f, g);
    }

    boolean write(int t, int p, long digits, int n) {
        return counted().write(t, p, digits, n);
    }

    boolean write(int t, int p, String text) {
        return write(t, p, digits(text), text.length());
    }

    int commit(int t) {
        return counted().commit(t);
    }

    boolean abort(int t) {
        return counted().abort(t);
    }

    int youngest() {
        return counted().youngest();
    }

    int kind(int v, int p) {
        return counted().kind(v, p);
    }

    long text(int v, int p) {
        return counted().text(v, p);
    }

    int length(int v, int p) {
        return counted().length(v, p);
    }

    int line(int v, int p) {
        return counted().line(v, p);
    }

    int count(int v, int p) {
        return counted().count(v, p);
    }

    int created(int v, int p) {
        return counted().created(v, p);
    }

    int locate(int r, int p, int a) {
        return counted().locate(r, p, a);
    }

    int representation(int r, int p) {
        return counted().representation(r, p);
    }

    int representations() {
        return counted().representations();
    }

    int stored(int k, int what) {
        return counted().stored(k, what);
    }

    /** Revision 1: directories 1, 1/1 and 3, files 1/1/1 (abcde), 1/2 (never written) and 2 (12). Lines 1 to 6. */
    static Store sample() {
        Store x = new Store();
        x.begin(0);
        x.directory(0, 1);
        x.directory(0, 1, 1);
        x.file(0, 1, 1, 1);
        x.file(0, 1, 2);
        x.file(0, 2);
        x.directory(0, 3);
        x.write(0, at(1, 1, 1), "abcde");
        x.write(0, at(2), "12");
        x.commit(0);
        return x;
    }

    /** Commits one write as the next revision. */
    int next(int p, String text) {
        begin(0);
        write(0, p, text);
        return commit(0);
    }
}
