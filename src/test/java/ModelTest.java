import java.util.ArrayList;
import java.util.List;
import java.util.Random;
import java.util.TreeMap;

/**
 * Runs of calls against a model: the document written down a second time, with trees of nodes that
 * hold their children, paths as lists of names and texts as strings. The runs are the same each time.
 */
public final class ModelTest {
    private static final int RUNS = 8000;
    private static final int CALLS = 512;

    private static final class MNode {
        int line;
        boolean directory;
        String text = "";
        int count;
        int creation = -1;
        MNode predecessor;
        int sourceRevision = -1;
        int sourcePath;
        boolean written;
        int storedAs = -1;
        TreeMap<Integer, MNode> children = new TreeMap<>();
    }

    private static final class Conflict extends Exception {
        private static final long serialVersionUID = 1L;
        final int path;

        Conflict(int path) {
            this.path = path;
        }
    }

    private static final class Model {
        final List<MNode> revisions = new ArrayList<>();
        final MNode[] open = new MNode[3];
        final int[] base = new int[3];
        final List<String> texts = new ArrayList<>();
        final List<int[]> details = new ArrayList<>();
        int lines;
        int merges;

        Model() {
            MNode root = new MNode();
            root.directory = true;
            root.creation = 0;
            revisions.add(root);
        }

        static List<Integer> names(int p) {
            if (p < 0 || p > 124) {
                return null;
            }
            int[] d = {p % 5, p / 5 % 5, p / 25};
            List<Integer> names = new ArrayList<>();
            boolean ended = false;
            for (int digit : d) {
                if (digit == 0) {
                    ended = true;
                } else if (ended) {
                    return null;
                } else {
                    names.add(digit);
                }
            }
            return names;
        }

        static int number(List<Integer> names) {
            if (names.size() > 3) {
                return -1;
            }
            int p = 0;
            for (int i = names.size() - 1; i >= 0; i--) {
                p = p * 5 + names.get(i);
            }
            return p;
        }

        static MNode find(MNode root, int p) {
            List<Integer> names = names(p);
            if (names == null || root == null) {
                return null;
            }
            MNode node = root;
            for (int name : names) {
                node = node == null ? null : node.children.get(name);
            }
            return node;
        }

        MNode tree(int v) {
            if (v >= 0) {
                return v < revisions.size() ? revisions.get(v) : null;
            }
            return v >= -3 ? open[-1 - v] : null;
        }

        MNode openRoot(int t) {
            return t < 0 || t > 2 ? null : open[t];
        }

        boolean begin(int t) {
            if (t < 0 || t > 2 || open[t] != null) {
                return false;
            }
            base[t] = revisions.size() - 1;
            open[t] = revisions.get(base[t]);
            return true;
        }

        static MNode next(MNode old, int line) {
            MNode node = new MNode();
            node.line = line;
            node.directory = old.directory;
            node.text = old.text;
            node.count = old.count + 1;
            node.predecessor = old;
            node.children = new TreeMap<>(old.children);
            return node;
        }

        MNode touch(int t, List<Integer> names) {
            if (open[t].creation >= 0) {
                open[t] = next(open[t], open[t].line);
            }
            MNode node = open[t];
            for (int name : names) {
                MNode child = node.children.get(name);
                if (child.creation >= 0) {
                    child = next(child, child.line);
                    node.children.put(name, child);
                }
                node = child;
            }
            return node;
        }

        boolean cannotAdd(int t, int p) {
            List<Integer> names = names(p);
            if (openRoot(t) == null || names == null || names.isEmpty()) {
                return true;
            }
            MNode parent = find(open[t], number(names.subList(0, names.size() - 1)));
            return parent == null || !parent.directory || find(open[t], p) != null;
        }

        void add(int t, int p, MNode node) {
            List<Integer> names = names(p);
            int last = names.size() - 1;
            touch(t, names.subList(0, last)).children.put(names.get(last), node);
        }

        boolean make(int t, int p, boolean directory) {
            if (cannotAdd(t, p)) {
                return false;
            }
            MNode node = new MNode();
            node.line = ++lines;
            node.directory = directory;
            add(t, p, node);
            return true;
        }

        boolean remove(int t, int p) {
            if (openRoot(t) == null || p == 0 || find(open[t], p) == null) {
                return false;
            }
            List<Integer> names = names(p);
            int last = names.size() - 1;
            touch(t, names.subList(0, last)).children.remove(names.get(last));
            return true;
        }

        static int height(MNode node) {
            int height = 0;
            for (MNode child : node.children.values()) {
                height = Math.max(height, 1 + height(child));
            }
            return height;
        }

        boolean copy(int t, int r, int f, int g) {
            if (r < 0 || r >= revisions.size() || cannotAdd(t, g)) {
                return false;
            }
            MNode source = find(revisions.get(r), f);
            if (source == null || names(g).size() + height(source) > 3) {
                return false;
            }
            MNode node = next(source, ++lines);
            node.sourceRevision = r;
            node.sourcePath = f;
            add(t, g, node);
            return true;
        }

        boolean write(int t, int p, long digits, int n) {
            MNode there = find(openRoot(t), p);
            if (there == null || there.directory || n < 0 || n > 12) {
                return false;
            }
            StringBuilder text = new StringBuilder();
            for (int k = 0; k < n; k++) {
                text.append(Character.forDigit((int) (digits >> 4 * k & 15), 16));
            }
            MNode node = touch(t, names(p));
            node.text = text.toString();
            node.written = true;
            return true;
        }

        /** A tree that can be changed without changing the transaction's. */
        static MNode duplicate(MNode node) {
            if (node.creation >= 0) {
                return node;
            }
            MNode twin = new MNode();
            twin.line = node.line;
            twin.directory = node.directory;
            twin.text = node.text;
            twin.count = node.count;
            twin.predecessor = node.predecessor;
            twin.sourceRevision = node.sourceRevision;
            twin.sourcePath = node.sourcePath;
            twin.written = node.written;
            for (int name : node.children.keySet()) {
                twin.children.put(name, duplicate(node.children.get(name)));
            }
            return twin;
        }

        void merge(List<Integer> at, MNode b, MNode y, MNode t) throws Conflict {
            for (int name = 1; name <= 4; name++) {
                List<Integer> path = new ArrayList<>(at);
                path.add(name);
                MNode bc = b.children.get(name);
                MNode yc = y.children.get(name);
                MNode tc = t.children.get(name);
                if (yc == bc) {
                    continue;
                }
                if (tc == bc) {
                    if (yc == null) {
                        t.children.remove(name);
                    } else {
                        t.children.put(name, yc);
                    }
                } else if (bc != null && yc != null && tc != null && bc.directory && yc.directory
                        && tc.directory && bc.line == yc.line && yc.line == tc.line) {
                    merge(path, bc, yc, tc);
                } else {
                    throw new Conflict(number(path));
                }
            }
            t.predecessor = y;
            t.count = y.count + 1;
            merges++;
        }

        int commit(int t) {
            if (openRoot(t) == null || revisions.size() == 16) {
                return -1;
            }
            MNode b = revisions.get(base[t]);
            MNode y = revisions.get(revisions.size() - 1);
            MNode result = duplicate(open[t]);
            if (y != b) {
                if (open[t] == b) {
                    result = y;
                } else {
                    try {
                        merge(new ArrayList<>(), b, y, result);
                    } catch (Conflict conflict) {
                        return -2 - conflict.path;
                    }
                }
            }
            revisions.add(result);
            int r = revisions.size() - 1;
            List<MNode> own = new ArrayList<>();
            for (int p = 0; p < 125; p++) {
                MNode node = find(result, p);
                if (node != null && node.creation < 0) {
                    own.add(node);
                }
            }
            for (MNode node : own) {
                node.creation = r;
            }
            for (MNode node : own) {
                if (!node.directory && node.written) {
                    node.storedAs = store(node);
                }
            }
            open[t] = null;
            return r;
        }

        int shows(MNode node) {
            if (node.directory || node.text.isEmpty()) {
                return -1;
            }
            if (node.written) {
                return node.storedAs;
            }
            return node.predecessor == null ? -1 : shows(node.predecessor);
        }

        int store(MNode node) {
            if (node.text.isEmpty()) {
                return -1;
            }
            if (texts.contains(node.text)) {
                return texts.indexOf(node.text);
            }
            int under = -1;
            int c = node.count;
            if (c > 0) {
                MNode ancestor = node;
                for (int step = Integer.lowestOneBit(c); step > 0; step--) {
                    ancestor = ancestor.predecessor;
                }
                int shown = shows(ancestor);
                int allowed = 1 + 31 - Integer.numberOfLeadingZeros(1 + c);
                if (shown >= 0 && details.get(shown)[1] < allowed) {
                    under = shown;
                }
            }
            int chain = under < 0 ? 1 : 1 + details.get(under)[1];
            details.add(new int[] {under, chain, size(node.text, under < 0 ? "" : texts.get(under)), node.text.length()});
            texts.add(node.text);
            return texts.size() - 1;
        }

        static int size(String text, String under) {
            int cost = 0;
            boolean single = false;
            int i = 0;
            while (i < text.length()) {
                int end = text.length();
                while (end - i >= 3 && !under.contains(text.substring(i, end))) {
                    end--;
                }
                if (end - i >= 3) {
                    cost += 2;
                    i = end;
                    single = false;
                } else {
                    cost += single ? 1 : 2;
                    i++;
                    single = true;
                }
            }
            return cost;
        }

        boolean abort(int t) {
            if (openRoot(t) == null) {
                return false;
            }
            open[t] = null;
            return true;
        }

        int kind(int v, int p) {
            if (tree(v) == null) {
                return -1;
            }
            MNode node = find(tree(v), p);
            return node == null ? 0 : node.directory ? 1 : 2;
        }

        long text(int v, int p) {
            MNode node = find(tree(v), p);
            if (node == null || node.directory) {
                return -1;
            }
            String backwards = new StringBuilder(node.text).reverse().toString();
            return backwards.isEmpty() ? 0 : Long.parseLong(backwards, 16);
        }

        int length(int v, int p) {
            MNode node = find(tree(v), p);
            return node == null || node.directory ? -1 : node.text.length();
        }

        int line(int v, int p) {
            MNode node = find(tree(v), p);
            return node == null ? -1 : node.line;
        }

        int count(int v, int p) {
            MNode node = find(tree(v), p);
            return node == null ? -1 : node.count;
        }

        int created(int v, int p) {
            MNode node = find(tree(v), p);
            return node == null ? -1 : node.creation;
        }

        int locate(int r, int p, int a) {
            int top = revisions.size() - 1;
            if (r < 0 || r > top || a < 0 || a > r || find(revisions.get(r), p) == null) {
                return -1;
            }
            List<Integer> path = names(p);
            while (r != a) {
                int line = find(revisions.get(r), number(path)).line;
                MNode source = null;
                int length = path.size();
                for (; length >= 0 && source == null; length--) {
                    MNode node = find(revisions.get(r), number(path.subList(0, length)));
                    source = node.sourceRevision >= 0 && node.creation == r ? node : null;
                }
                if (source == null) {
                    r--;
                } else {
                    List<Integer> behind = path.subList(length + 1, path.size());
                    boolean itself = behind.isEmpty();
                    List<Integer> back = names(source.sourcePath);
                    back.addAll(behind);
                    path = back;
                    r = source.sourceRevision;
                    if (itself) {
                        line = find(revisions.get(r), number(path)).line;
                    }
                }
                MNode before = find(revisions.get(r), number(path));
                if (before == null || before.line != line || r < a) {
                    return -1;
                }
            }
            return number(path);
        }

        int representation(int r, int p) {
            MNode node = r < 0 || r >= revisions.size() ? null : find(revisions.get(r), p);
            return node == null ? -1 : shows(node);
        }

        int stored(int k, int what) {
            return k < 0 || k >= details.size() || what < 0 || what > 3 ? -1 : details.get(k)[what];
        }
    }

    private final Random random;
    private final TreeRevisions x = new TreeRevisions();
    private final Model m = new Model();
    private final int names;
    private final int ending;
    private final int transactions;
    private final int favourite;
    private int calls = 0;
    private final StringBuilder story = new StringBuilder();

    private static int wrong = 0;
    private static final TreeMap<String, Integer> seen = new TreeMap<>();

    private ModelTest(long seed) {
        random = new Random(seed);
        names = 1 + random.nextInt(4);
        ending = 1 + random.nextInt(24);
        transactions = 1 + random.nextInt(3);
        favourite = path();
    }

    private static void note(String what) {
        seen.merge(what, 1, Integer::sum);
    }

    private int path() {
        if (random.nextInt(25) == 0) {
            return random.nextInt(135) - 5;
        }
        int p = 0;
        int depth = random.nextInt(20) == 0 ? 0 : 1 + random.nextInt(3);
        for (int i = 0; i < depth; i++) {
            p = p * 5 + 1 + random.nextInt(names);
        }
        return p;
    }

    /** Mostly a path at which the tree has a node. */
    private int nodePath(int v) {
        int p = path();
        for (int i = 0; i < 6 && m.kind(v, p) <= 0; i++) {
            p = path();
        }
        return p;
    }

    private int filePath(int v) {
        int p = random.nextInt(3) > 0 ? favourite : path();
        for (int i = 0; i < 12 && m.kind(v, p) != 2; i++) {
            p = path();
        }
        return p;
    }

    private int transaction() {
        return random.nextInt(40) == 0 ? random.nextInt(7) - 2 : random.nextInt(transactions);
    }

    private int revision() {
        int youngest = m.revisions.size() - 1;
        if (random.nextInt(30) == 0) {
            return random.nextInt(20) - 2;
        }
        return random.nextInt(3) == 0 ? youngest : random.nextInt(youngest + 1);
    }

    private int tree() {
        return random.nextBoolean() ? revision() : -1 - transaction();
    }

    /** A text that has often pieces of the file's own text. */
    private long digits(int v, int p) {
        long old = m.text(v, p);
        switch (random.nextInt(5)) {
            case 0:
                return random.nextLong();
            case 1:
                return random.nextInt(4) * 0x1111L;
            case 2:
                return old >> 4 * random.nextInt(6) ^ (long) random.nextInt(16) << 4 * random.nextInt(12);
            case 3:
                return old << 4 * random.nextInt(6) | random.nextInt(16);
            default:
                return old ^ (long) random.nextInt(16) << 4 * random.nextInt(12);
        }
    }

    private void same(String call, long got, long want) {
        calls++;
        story.append(call).append(" -> ").append(want).append('\n');
        if (got != want) {
            wrong++;
            if (wrong == 1) {
                System.out.print(story);
            }
            System.out.println(call + " answered " + got + ", due is " + want);
        }
    }

    private void same(String call, boolean got, boolean want) {
        same(call, got ? 1 : 0, want ? 1 : 0);
        note(call.substring(0, call.indexOf('(')) + (want ? " done" : " refused"));
    }

    private void change() {
        int t = transaction();
        int v = -1 - t;
        int choice = random.nextInt(100);
        if (m.openRoot(t) == null && choice > 5) {
            same("begin(" + t + ")", x.begin(t), m.begin(t));
        } else if (choice < 4) {
            same("begin(" + t + ")", x.begin(t), m.begin(t));
        } else if (choice < 25) {
            int p = path();
            boolean directory = random.nextInt(5) < 3;
            same("make(" + t + ", " + p + ", " + directory + ")", x.make(t, p, directory), m.make(t, p, directory));
        } else if (choice < 28) {
            int p = nodePath(v);
            same("remove(" + t + ", " + p + ")", x.remove(t, p), m.remove(t, p));
        } else if (choice < 45) {
            int r = revision();
            int f = nodePath(r);
            int g = path();
            same("copy(" + t + ", " + r + ", " + f + ", " + g + ")", x.copy(t, r, f, g), m.copy(t, r, f, g));
        } else if (choice < 98 - ending) {
            int p = filePath(v);
            long digits = digits(v, p);
            int n = random.nextInt(30) == 0 ? random.nextInt(40) - 10 : random.nextInt(13);
            same("write(" + t + ", " + p + ", " + digits + ", " + n + ")", x.write(t, p, digits, n), m.write(t, p, digits, n));
        } else if (choice < 98) {
            endOf(t);
        } else {
            same("abort(" + t + ")", x.abort(t), m.abort(t));
        }
    }

    private void endOf(int t) {
        int merges = m.merges;
        int answer = m.commit(t);
        same("commit(" + t + ")", x.commit(t), answer);
        note(answer >= 0 ? "commit" : answer == -1 ? "commit refused" : "conflict at depth " + Model.names(-2 - answer).size());
        if (answer >= 0 && m.merges > merges) {
            note("merge of " + (m.merges - merges) + " directories");
        }
        if (answer < -1 && random.nextInt(3) == 0) {
            same("abort(" + t + ")", x.abort(t), m.abort(t));
        }
    }

    private void ask() {
        int v = tree();
        int p = nodePath(v);
        String at = "(" + v + ", " + p + ")";
        switch (random.nextInt(12)) {
            case 0:
                same("youngest()", x.youngest(), m.revisions.size() - 1);
                break;
            case 1:
                same("kind" + at, x.kind(v, p), m.kind(v, p));
                break;
            case 2:
                same("text" + at, x.text(v, p), m.text(v, p));
                break;
            case 3:
                same("length" + at, x.length(v, p), m.length(v, p));
                break;
            case 4:
                same("line" + at, x.line(v, p), m.line(v, p));
                break;
            case 5:
                same("count" + at, x.count(v, p), m.count(v, p));
                break;
            case 6:
                same("created" + at, x.created(v, p), m.created(v, p));
                break;
            case 7:
                same("representations()", x.representations(), m.texts.size());
                break;
            case 8:
                askRepresentation();
                break;
            case 9:
                askStored();
                break;
            default:
                askLocate();
        }
    }

    private void askRepresentation() {
        int r = revision();
        int p = filePath(r);
        same("representation(" + r + ", " + p + ")", x.representation(r, p), m.representation(r, p));
    }

    private void askStored() {
        int k = random.nextInt(m.texts.size() + 2) - random.nextInt(2);
        int what = random.nextInt(20) == 0 ? random.nextInt(9) - 3 : random.nextInt(4);
        int answer = m.stored(k, what);
        same("stored(" + k + ", " + what + ")", x.stored(k, what), answer);
        if (what == 1) {
            note("chain " + answer);
        }
    }

    private void askLocate() {
        int r = revision();
        int p = nodePath(r);
        int a = random.nextInt(10) == 0 ? revision() : random.nextInt(Math.max(r, 0) + 1);
        int answer = m.locate(r, p, a);
        same("locate(" + r + ", " + p + ", " + a + ")", x.locate(r, p, a), answer);
        note(answer < 0 ? "locate NONE" : answer == p ? "locate in place" : "locate elsewhere");
    }

    /** Some directories and files to begin with, so that transactions can meet below them. */
    private void prepare() {
        same("begin(0)", x.begin(0), m.begin(0));
        for (int p = 1; p < 125; p++) {
            boolean directory = p < 5 || p < 25 && random.nextInt(3) > 0;
            if (!m.cannotAdd(0, p) && random.nextInt(3) > 0) {
                same("make(0, " + p + ", " + directory + ")", x.make(0, p, directory), m.make(0, p, directory));
            }
        }
        same("commit(0)", x.commit(0), m.commit(0));
    }

    private void run() {
        int share = 30 + random.nextInt(50);
        if (random.nextInt(3) > 0) {
            prepare();
        }
        while (calls < CALLS && wrong == 0) {
            // Towards the end there are only questions, so that the last state is looked at, too.
            if (calls < CALLS - 100 && random.nextInt(100) < share) {
                change();
            } else {
                ask();
            }
        }
    }

    public static void main(String[] args) {
        for (int run = 0; run < RUNS && wrong == 0; run++) {
            new ModelTest(run).run();
        }
        for (String needed : new String[] {"locate elsewhere", "chain 4", "merge of 3 directories",
                "conflict at depth 3", "copy done", "remove done", "abort done", "commit refused"}) {
            if (seen.getOrDefault(needed, 0) < 20) {
                wrong++;
                System.out.println("the runs came hardly to: " + needed);
            }
        }
        System.out.println(seen);
        System.out.println(wrong == 0 ? "all answers are as due" : wrong + " answers are not as due");
        if (wrong != 0) {
            System.exit(1);
        }
    }
}
