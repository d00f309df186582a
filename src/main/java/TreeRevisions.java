import java.util.ArrayList;

/**
 * A store of trees under revisions. DOC.md tells what every call answers.
 */
public final class TreeRevisions {
    public static final int NONE = -1;

    private static final int MOST_REVISIONS = 16;
    private static final int MOST_TRANSACTIONS = 3;
    private static final int MOST_DIGITS = 12;
    private static final int FIRST_CONFLICT = -2;

    private static final int NOTHING = 0;
    private static final int DIRECTORY = 1;
    private static final int FILE = 2;

    private static final int WHAT_BASE = 0;
    private static final int WHAT_CHAIN = 1;
    private static final int WHAT_SIZE = 2;
    private static final int WHAT_DIGITS = 3;

    private final Tree[] revisions = new Tree[MOST_REVISIONS];
    private final Transaction[] transactions = new Transaction[MOST_TRANSACTIONS];
    private final ArrayList<Representation> kept = new ArrayList<Representation>();
    private final Text empty = new Text(0L, 0);
    private int newest = 0;
    private int lastLine = 0;

    public TreeRevisions() {
        for (int r = 0; r < MOST_REVISIONS; r++) {
            revisions[r] = new Tree();
        }
        for (int t = 0; t < MOST_TRANSACTIONS; t++) {
            transactions[t] = new Transaction();
        }
        Node root = new Node(0, true, empty);
        root.creation = 0;
        revisions[0].put(0, root);
    }

    public boolean begin(int t) {
        if (t < 0 || t >= MOST_TRANSACTIONS || transactions[t].open) {
            return false;
        }
        Transaction begun = transactions[t];
        begun.open = true;
        begun.base = newest;
        begun.tree.takeFrom(revisions[newest], 0);
        return true;
    }

    public boolean make(int t, int p, boolean directory) {
        Transaction change = openTransaction(t);
        if (change == null || !change.hasRoomAt(p)) {
            return false;
        }
        change.add(p, new Node(newLine(), directory, empty));
        return true;
    }

    public boolean remove(int t, int p) {
        Transaction change = openTransaction(t);
        if (change == null || p == 0 || change.tree.at(p) == null) {
            return false;
        }
        change.tree.clear(p);
        change.touch(Path.parentOf(p));
        return true;
    }

    public boolean copy(int t, int r, int f, int g) {
        Transaction change = openTransaction(t);
        if (change == null || !isRevision(r) || !change.hasRoomAt(g)) {
            return false;
        }
        Tree from = revisions[r];
        Node original = from.at(f);
        if (original == null || Path.depthOf(g) + from.heightOf(f) > Path.DEEPEST) {
            return false;
        }
        Node copied = Node.after(original, newLine());
        copied.sourceRevision = r;
        copied.sourcePath = f;
        change.add(g, copied);
        change.tree.graft(from, f, g);
        return true;
    }

    public boolean write(int t, int p, long digits, int n) {
        Transaction change = openTransaction(t);
        if (change == null || n < 0 || n > MOST_DIGITS || kindOf(change.tree.at(p)) != FILE) {
            return false;
        }
        change.overwrite(p, new Text(digits, n));
        return true;
    }

    public int commit(int t) {
        Transaction change = openTransaction(t);
        if (change == null || newest + 1 >= MOST_REVISIONS) {
            return NONE;
        }
        Merge merge = new Merge(revisions[change.base], revisions[newest], change.tree);
        int conflict = merge.conflictAt(0);
        if (conflict != NONE) {
            return FIRST_CONFLICT - conflict;
        }
        merge.mergeAt(0);
        newest++;
        revisions[newest].takeFrom(change.tree, 0);
        settle(revisions[newest]);
        change.open = false;
        return newest;
    }

    public boolean abort(int t) {
        Transaction change = openTransaction(t);
        if (change == null) {
            return false;
        }
        change.open = false;
        return true;
    }

    public int youngest() {
        return newest;
    }

    public int kind(int v, int p) {
        Tree tree = treeOf(v);
        return tree == null ? NONE : kindOf(tree.at(p));
    }

    public long text(int v, int p) {
        Node node = nodeAt(v, p);
        return node == null || node.directory ? NONE : node.text.digits;
    }

    public int length(int v, int p) {
        Node node = nodeAt(v, p);
        return node == null || node.directory ? NONE : node.text.size;
    }

    public int line(int v, int p) {
        Node node = nodeAt(v, p);
        return node == null ? NONE : node.line;
    }

    public int count(int v, int p) {
        Node node = nodeAt(v, p);
        return node == null ? NONE : node.count;
    }

    public int created(int v, int p) {
        Node node = nodeAt(v, p);
        return node == null ? NONE : node.creation;
    }

    public int locate(int r, int p, int a) {
        if (!isRevision(r) || !isRevision(a) || a > r || revisions[r].at(p) == null) {
            return NONE;
        }
        int revision = r;
        int path = p;
        for (int step = 0; step < MOST_REVISIONS && revision > a; step++) {
            Tree tree = revisions[revision];
            int top = tree.copyAbove(path, revision);
            Node copied = tree.at(top);
            int earlier = copied == null ? revision - 1 : copied.sourceRevision;
            int before = copied == null ? path : Path.moved(path, top, copied.sourcePath);
            // A copy itself has another line than its source: only what is below it keeps the line.
            if (path != top && !isOnLine(earlier, before, tree.at(path))) {
                return NONE;
            }
            revision = earlier;
            path = before;
        }
        return revision == a ? path : NONE;
    }

    public int representation(int r, int p) {
        Node node = isRevision(r) ? revisions[r].at(p) : null;
        return node == null || node.directory ? NONE : node.shown;
    }

    public int representations() {
        return kept.size();
    }

    public int stored(int k, int what) {
        if (k < 0 || k >= kept.size()) {
            return NONE;
        }
        Representation asked = kept.get(k);
        switch (what) {
            case WHAT_BASE:
                return asked.base;
            case WHAT_CHAIN:
                return asked.chain;
            case WHAT_SIZE:
                return asked.cost;
            case WHAT_DIGITS:
                return asked.text.size;
            default:
                return NONE;
        }
    }

    private int newLine() {
        lastLine++;
        return lastLine;
    }

    private boolean isRevision(int r) {
        return r >= 0 && r <= newest;
    }

    private Transaction openTransaction(int t) {
        return t >= 0 && t < MOST_TRANSACTIONS && transactions[t].open ? transactions[t] : null;
    }

    private Tree treeOf(int v) {
        if (v >= 0) {
            return isRevision(v) ? revisions[v] : null;
        }
        Transaction shown = openTransaction(-1 - v);
        return shown == null ? null : shown.tree;
    }

    private Node nodeAt(int v, int p) {
        Tree tree = treeOf(v);
        return tree == null ? null : tree.at(p);
    }

    private static int kindOf(Node node) {
        if (node == null) {
            return NOTHING;
        }
        return node.directory ? DIRECTORY : FILE;
    }

    private boolean isOnLine(int r, int p, Node node) {
        Node there = isRevision(r) ? revisions[r].at(p) : null;
        return there != null && node != null && there.line == node.line;
    }

    /** Gives the nodes of the transaction that became the newest revision their creation and stores their texts. */
    private void settle(Tree tree) {
        for (int p = 0; p < Path.PATHS; p++) {
            Node node = tree.at(p);
            if (node != null && node.creation == NONE) {
                node.creation = newest;
                if (node.written) {
                    node.shown = keep(node);
                }
            }
        }
    }

    private int keep(Node node) {
        if (node.text.size == 0) {
            return NONE;
        }
        int equal = indexOfText(node.text);
        if (equal != NONE) {
            return equal;
        }
        int base = baseFor(node);
        if (base == NONE) {
            kept.add(new Representation(node.text, NONE, 1, node.text.costFrom(empty)));
        } else {
            Representation under = kept.get(base);
            kept.add(new Representation(node.text, base, under.chain + 1, node.text.costFrom(under.text)));
        }
        return kept.size() - 1;
    }

    private int indexOfText(Text text) {
        for (int k = 0; k < kept.size(); k++) {
            if (kept.get(k).text.isSameAs(text)) {
                return k;
            }
        }
        return NONE;
    }

    private int baseFor(Node node) {
        int c = node.count;
        Node ancestor = c > 0 ? node.ancestor(c - (c & c - 1)) : null;
        if (ancestor == null || ancestor.shown < 0 || ancestor.shown >= kept.size()) {
            return NONE;
        }
        return kept.get(ancestor.shown).chain < allowedChain(c) ? ancestor.shown : NONE;
    }

    private static int allowedChain(int c) {
        int k = 0;
        while (k < 29 && 1 << k + 1 <= 1 + c) {
            k++;
        }
        return k + 1;
    }

    /** The arithmetic of paths: names are digits to the base 5, the first name the lowest digit. */
    private static final class Path {
        static final int PATHS = 125;
        static final int DEEPEST = 3;
        private static final int NAMES = 4;

        static boolean isGood(int p) {
            if (p < 0 || p >= PATHS) {
                return false;
            }
            boolean hasFirst = p % 5 != 0;
            boolean hasSecond = p / 5 % 5 != 0;
            boolean hasThird = p / 25 != 0;
            return (hasFirst || !hasSecond) && (hasSecond || !hasThird);
        }

        static int depthOf(int p) {
            if (p <= 0) {
                return 0;
            }
            if (p < 5) {
                return 1;
            }
            return p < 25 ? 2 : DEEPEST;
        }

        /** By what a name that stands behind the given number of names is multiplied. */
        static int weightAt(int depth) {
            switch (depth) {
                case 0:
                    return 1;
                case 1:
                    return 5;
                case 2:
                    return 25;
                default:
                    return PATHS;
            }
        }

        static int parentOf(int p) {
            return p <= 0 ? 0 : p % weightAt(depthOf(p) - 1);
        }

        /** How many names a child of p can have: none where it would be too deep. */
        static int namesBelow(int p) {
            return depthOf(p) < DEEPEST ? NAMES : 0;
        }

        static int childOf(int p, int name) {
            return p + name * weightAt(depthOf(p));
        }

        static boolean isAtOrBelow(int q, int p) {
            return depthOf(q) >= depthOf(p) && q % weightAt(depthOf(p)) == p;
        }

        /**
         * Path g with the names that q has behind those of p. With more than DEEPEST names it comes out
         * at PATHS or above, where no tree has a node.
         */
        static int moved(int q, int p, int g) {
            return g + q / weightAt(depthOf(p)) * weightAt(depthOf(g));
        }
    }

    /** A text, never changed once made. */
    private static final class Text {
        private static final int SHORTEST_PIECE = 3;
        private static final int PIECE_COST = 2;

        final long digits;
        final int size;

        Text(long digits, int size) {
            this.digits = digits & (1L << 4 * size) - 1;
            this.size = size;
        }

        boolean isSameAs(Text other) {
            return size == other.size && digits == other.digits;
        }

        private int digitAt(int k) {
            return (int) (digits >> 4 * k & 15);
        }

        int costFrom(Text base) {
            int cost = 0;
            boolean afterDigit = false;
            int place = 0;
            while (place < size) {
                int piece = longestPiece(place, base);
                if (piece >= SHORTEST_PIECE) {
                    cost += PIECE_COST;
                    place += piece;
                    afterDigit = false;
                } else {
                    cost += afterDigit ? 1 : 2;
                    place++;
                    afterDigit = true;
                }
            }
            return cost;
        }

        private int longestPiece(int place, Text base) {
            int longest = 0;
            for (int start = 0; start < base.size; start++) {
                longest = Math.max(longest, commonFrom(place, base, start));
            }
            return longest;
        }

        private int commonFrom(int place, Text base, int start) {
            int common = 0;
            while (place + common < size && start + common < base.size
                    && digitAt(place + common) == base.digitAt(start + common)) {
                common++;
            }
            return common;
        }
    }

    /** A text that is kept, once for all files that have it. */
    private static final class Representation {
        final Text text;
        final int base;
        final int chain;
        final int cost;

        Representation(Text text, int base, int chain, int cost) {
            this.text = text;
            this.base = base;
            this.chain = chain;
            this.cost = cost;
        }
    }

    /** What is at a path; it belongs to a transaction as long as its creation is NONE, and never changes after. */
    private static final class Node {
        final int line;
        final boolean directory;
        Text text;
        int count = 0;
        int creation = NONE;
        Node predecessor = null;
        int sourceRevision = NONE;
        int sourcePath = NONE;
        boolean written = false;
        int shown = NONE;

        Node(int line, boolean directory, Text text) {
            this.line = line;
            this.directory = directory;
            this.text = text;
        }

        static Node after(Node predecessor, int line) {
            Node next = new Node(line, predecessor.directory, predecessor.text);
            next.follow(predecessor);
            next.shown = predecessor.shown;
            return next;
        }

        void follow(Node node) {
            predecessor = node;
            count = node.count + 1;
        }

        Node ancestor(int steps) {
            Node found = this;
            for (int step = 0; step < steps && found != null; step++) {
                found = found.predecessor;
            }
            return found;
        }
    }

    /** The nodes at all paths; below one directory node there is the same at every place where it stands. */
    private static final class Tree {
        private final Node[] nodes = new Node[Path.PATHS];

        Node at(int p) {
            return p >= 0 && p < Path.PATHS ? nodes[p] : null;
        }

        void put(int p, Node node) {
            if (p >= 0 && p < Path.PATHS) {
                nodes[p] = node;
            }
        }

        void clear(int p) {
            for (int q = 0; q < Path.PATHS; q++) {
                if (Path.isAtOrBelow(q, p)) {
                    nodes[q] = null;
                }
            }
        }

        /** Makes what is at and below p the same as in the other tree. */
        void takeFrom(Tree other, int p) {
            for (int q = 0; q < Path.PATHS; q++) {
                if (Path.isAtOrBelow(q, p)) {
                    nodes[q] = other.nodes[q];
                }
            }
        }

        /** Puts below g the nodes that the other tree has below f. */
        void graft(Tree other, int f, int g) {
            for (int q = 0; q < Path.PATHS; q++) {
                if (q != f && other.nodes[q] != null && Path.isAtOrBelow(q, f)) {
                    put(Path.moved(q, f, g), other.nodes[q]);
                }
            }
        }

        /** How many names the deepest node at or below p has behind those of p. */
        int heightOf(int p) {
            int deepest = Path.depthOf(p);
            for (int q = 0; q < Path.PATHS; q++) {
                if (nodes[q] != null && Path.isAtOrBelow(q, p)) {
                    deepest = Math.max(deepest, Path.depthOf(q));
                }
            }
            return deepest - Path.depthOf(p);
        }

        /** The deepest path, p or above it, with a node that was copied in the given revision; NONE without one. */
        int copyAbove(int p, int revision) {
            int q = p;
            for (int depth = Path.depthOf(p); depth > 0; depth--) {
                Node node = at(q);
                if (node != null && node.sourceRevision != NONE && node.creation == revision) {
                    return q;
                }
                q = Path.parentOf(q);
            }
            return NONE;
        }
    }

    /** One of the three places for a transaction, used again for each that is begun there. */
    private static final class Transaction {
        final Tree tree = new Tree();
        boolean open = false;
        int base = 0;

        boolean hasRoomAt(int p) {
            return p != 0 && Path.isGood(p) && tree.at(p) == null
                    && kindOf(tree.at(Path.parentOf(p))) == DIRECTORY;
        }

        void add(int p, Node node) {
            tree.put(p, node);
            touch(Path.parentOf(p));
        }

        void overwrite(int p, Text text) {
            touch(p);
            Node file = tree.at(p);
            if (file != null) {
                file.text = text;
                file.written = true;
            }
        }

        void touch(int p) {
            int q = p;
            for (int depth = Path.depthOf(p); depth >= 0; depth--) {
                Node node = tree.at(q);
                if (node != null && node.creation != NONE) {
                    tree.put(q, Node.after(node, node.line));
                }
                q = Path.parentOf(q);
            }
        }
    }

    /**
     * Brings what was committed since a transaction's base into its tree. Conflicts are looked for
     * before anything is changed, so that a commit that fails leaves the transaction as it was.
     */
    private static final class Merge {
        private final Tree base;
        private final Tree youngest;
        private final Tree own;

        Merge(Tree base, Tree youngest, Tree own) {
            this.base = base;
            this.youngest = youngest;
            this.own = own;
        }

        /** The first path at or below p with a conflict, NONE without one. */
        private int conflictAt(int p) {
            if (isUnchangedIn(youngest, p) || isUnchangedIn(own, p)) {
                return NONE;
            }
            if (!isOneDirectory(p)) {
                return p;
            }
            for (int name = 1; name <= Path.namesBelow(p); name++) {
                int conflict = conflictAt(Path.childOf(p, name));
                if (conflict != NONE) {
                    return conflict;
                }
            }
            return NONE;
        }

        /** Merges what is at p, where conflictAt has found none. */
        private void mergeAt(int p) {
            if (isUnchangedIn(youngest, p)) {
                return;
            }
            if (isUnchangedIn(own, p)) {
                own.takeFrom(youngest, p);
                return;
            }
            for (int name = 1; name <= Path.namesBelow(p); name++) {
                mergeAt(Path.childOf(p, name));
            }
            Node merged = own.at(p);
            Node later = youngest.at(p);
            if (merged != null && later != null) {
                merged.follow(later);
            }
        }

        private boolean isUnchangedIn(Tree tree, int p) {
            return tree.at(p) == base.at(p);
        }

        private boolean isOneDirectory(int p) {
            Node b = base.at(p);
            Node y = youngest.at(p);
            Node t = own.at(p);
            return kindOf(b) == DIRECTORY && kindOf(y) == DIRECTORY && kindOf(t) == DIRECTORY
                    && b.line == y.line && b.line == t.line;
        }
    }
}
