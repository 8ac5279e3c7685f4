import java.util.ArrayList;
import java.util.Arrays;
import java.util.HashMap;
import java.util.HashSet;
import java.util.List;
import java.util.Map;
import java.util.Set;

/**
 * The document once more, as slowly and as directly as it can be said: terms are trees, values are found by going
 * over all of them until nothing new comes, cycles by trying all walks. Random runs are compared with it.
 */
final class NaiveJudge {
    private static final int BAD = -1, STATE = -2, FULL = -3, NONE = -9;

    /** op: a letter, 'd' for a constant, ':' for a front, or one of t + * z e o. */
    record Tree(char op, int digit, Tree left, Tree right) {
        int size() {
            return 1 + (left == null ? 0 : left.size()) + (right == null ? 0 : right.size());
        }

        String written() {
            String head = op == 'd' ? "" + digit : op == ':' ? ":" + digit : "" + op;
            return head + (left == null ? "" : left.written()) + (right == null ? "" : right.written());
        }

        boolean isStream() {
            return op >= 'A' && op <= 'H';
        }
    }

    private record Snapshot(int modulus, Tree[] trees) {
    }

    private static final class Fault extends RuntimeException {
        private static final long serialVersionUID = 1L;
        final int position;

        Fault(int position) {
            this.position = position;
        }
    }

    private static final class TooGreat extends RuntimeException {
        private static final long serialVersionUID = 1L;
    }

    private String text = "";
    private int modulus = 2;
    private Tree[] trees = new Tree[8];
    private final List<Snapshot> history = new ArrayList<>();
    private final Snapshot[] images = new Snapshot[2];
    private Integer[][] known = null;
    private final Map<Snapshot, Integer[][]> imageKnown = new HashMap<>();
    private int position;

    // ---- reading

    private int nextByte() {
        while (position < text.length() && text.charAt(position) == ' ') {
            position++;
        }
        if (position >= text.length()) {
            throw new Fault(text.length());
        }
        return text.charAt(position);
    }

    private int readDigit() {
        int c = nextByte();
        if (c < '0' || c > '9') {
            throw new Fault(position);
        }
        position++;
        return c - '0';
    }

    private Tree readTree() {
        char c = (char) nextByte();
        if (c >= '0' && c <= '9') {
            return new Tree('d', readDigit(), null, null);
        }
        if ("ABCDEFGH:t+*zeo".indexOf(c) < 0) {
            throw new Fault(position);
        }
        position++;
        if (c >= 'A' && c <= 'H') {
            return new Tree(c, 0, null, null);
        }
        int digit = c == ':' ? readDigit() : 0;
        Tree left = readTree();
        Tree right = "+*z".indexOf(c) < 0 ? null : readTree();
        return new Tree(c, digit, left, right);
    }

    private Tree readText() {
        position = 0;
        Tree tree = readTree();
        for (; position < text.length(); position++) {
            if (text.charAt(position) != ' ') {
                throw new Fault(position);
            }
        }
        return tree;
    }

    int write(int code) {
        if (code < 32 || code > 126) {
            return BAD;
        }
        if (text.length() == 80) {
            return FULL;
        }
        text += (char) code;
        return text.length();
    }

    int wipe() {
        int length = text.length();
        text = "";
        return length;
    }

    int fault() {
        try {
            readText();
            return NONE;
        } catch (Fault fault) {
            return fault.position;
        }
    }

    // ---- changes

    private Snapshot snapshot() {
        return new Snapshot(modulus, trees.clone());
    }

    private void restore(Snapshot snapshot) {
        modulus = snapshot.modulus;
        trees = snapshot.trees.clone();
        known = null;
    }

    private void recordChange() {
        history.add(snapshot());
        if (history.size() > 8) {
            history.remove(0);
        }
        known = null;
    }

    private static boolean out(int value, int least, int greatest) {
        return value < least || value > greatest;
    }

    private static int count(Tree[] trees) {
        return (int) Arrays.stream(trees).filter(tree -> tree != null).count();
    }

    int define(int a) {
        if (out(a, 0, 7)) {
            return BAD;
        }
        if (fault() != NONE) {
            return STATE;
        }
        recordChange();
        trees[a] = readText();
        return trees[a].size();
    }

    int undefine(int a) {
        if (out(a, 0, 7)) {
            return BAD;
        }
        if (trees[a] == null) {
            return STATE;
        }
        int size = trees[a].size();
        recordChange();
        trees[a] = null;
        return size;
    }

    int setModulus(int m) {
        if (out(m, 2, 10)) {
            return BAD;
        }
        int previous = modulus;
        recordChange();
        modulus = m;
        return previous;
    }

    private static Tree replace(Tree tree, char name, Tree by) {
        if (tree == null) {
            return null;
        }
        if (tree.op == name) {
            return by;
        }
        return new Tree(tree.op, tree.digit, replace(tree.left, name, by), replace(tree.right, name, by));
    }

    int insert(int a, int b) {
        if (out(a, 0, 7) || out(b, 0, 7)) {
            return BAD;
        }
        if (trees[a] == null || trees[b] == null) {
            return STATE;
        }
        Tree tree = replace(trees[a], (char) ('A' + b), trees[b]);
        if (tree.size() > 120) {
            return FULL;
        }
        recordChange();
        trees[a] = tree;
        return tree.size();
    }

    private static Tree one(char op, Tree left) {
        return new Tree(op, 0, left, null);
    }

    private static Tree two(char op, Tree left, Tree right) {
        return new Tree(op, 0, left, right);
    }

    /** The rules in the document's order; null if none can be applied to the whole term. */
    private static Tree applyHere(Tree tree) {
        Tree in = tree.left;
        if (in == null) {
            return null;
        }
        if (tree.op == 't' && in.op == ':') return in.left;
        if (tree.op == 't' && in.op == 'd') return in;
        if (tree.op == 't' && in.op == '+') return two('+', one('t', in.left), one('t', in.right));
        if (tree.op == 't' && in.op == '*') return two('*', one('t', in.left), one('t', in.right));
        if (tree.op == 't' && in.op == 'z') return two('z', in.right, one('t', in.left));
        if (tree.op == 'e' && in.op == 'z') return in.left;
        if (tree.op == 'o' && in.op == 'z') return in.right;
        if (tree.op == 't' && in.op == 'e') return one('e', one('t', one('t', in.left)));
        if (tree.op == 't' && in.op == 'o') return one('o', one('t', one('t', in.left)));
        if ((tree.op == 'e' || tree.op == 'o') && in.op == 'd') return in;
        if (tree.op == 'z' && in.op == 'e' && tree.right.op == 'o'
            && in.left.written().equals(tree.right.left.written())) return in.left;
        return null;
    }

    private static Tree applyFirst(Tree tree) {
        if (tree == null) {
            return null;
        }
        Tree here = applyHere(tree);
        if (here != null) {
            return here;
        }
        Tree left = applyFirst(tree.left);
        if (left != null) {
            return new Tree(tree.op, tree.digit, left, tree.right);
        }
        Tree right = applyFirst(tree.right);
        return right == null ? null : new Tree(tree.op, tree.digit, tree.left, right);
    }

    int simplify(int a) {
        if (out(a, 0, 7)) {
            return BAD;
        }
        if (trees[a] == null) {
            return STATE;
        }
        Tree tree = trees[a];
        int applied = 0;
        for (Tree next = applyFirst(tree); next != null; next = applyFirst(tree)) {
            tree = next;
            applied++;
            if (tree.size() > 120) {
                return FULL;
            }
        }
        recordChange();
        trees[a] = tree;
        return applied;
    }

    int undo() {
        if (history.isEmpty()) {
            return STATE;
        }
        restore(history.remove(history.size() - 1));
        return history.size();
    }

    // ---- what is told of equations

    private boolean isPlain() {
        for (Tree tree : trees) {
            String written = tree == null ? "" : tree.written();
            if (written.contains("z") || written.contains("e") || written.contains("o")) {
                return false;
            }
        }
        return true;
    }

    int told(int what) {
        switch (what) {
            case 0: return modulus;
            case 1: return count(trees);
            case 2: return Arrays.stream(trees).filter(tree -> tree != null).mapToInt(Tree::size).sum();
            case 3: return isPlain() ? 1 : 0;
            case 4: return text.length();
            case 5: return history.size();
            case 6:
                int full = 0;
                for (int a = 0; a < 8; a++) {
                    full += reach(a) == 400 ? 1 : 0;
                }
                return full;
            default: return BAD;
        }
    }

    int listing(int a, int k) {
        if (out(a, 0, 7) || k < 0) {
            return BAD;
        }
        String written = trees[a] == null ? "" : trees[a].written();
        return k < written.length() ? written.charAt(k) : NONE;
    }

    int uses(int a) {
        if (out(a, 0, 7)) {
            return BAD;
        }
        if (trees[a] == null) {
            return NONE;
        }
        int set = 0;
        for (int b = 0; b < 8; b++) {
            set |= trees[a].written().indexOf('A' + b) >= 0 ? 1 << b : 0;
        }
        return set;
    }

    private static void shifts(Tree tree, int shift, List<int[]> found) {
        if (tree == null) {
            return;
        }
        if (tree.isStream()) {
            found.add(new int[] {tree.op - 'A', shift});
        }
        int inner = shift + (tree.op == 't' ? 1 : tree.op == ':' ? -1 : 0);
        shifts(tree.left, inner, found);
        shifts(tree.right, inner, found);
    }

    /** The greatest sum of a way on from here, home; null if none leads there. */
    private Integer wayHome(int here, int home, Set<Integer> been) {
        List<int[]> found = new ArrayList<>();
        shifts(trees[here], 0, found);
        Map<Integer, Integer> steps = new HashMap<>();
        for (int[] step : found) {
            steps.merge(step[0], step[1], Math::max);
        }
        Integer best = null;
        for (Map.Entry<Integer, Integer> step : steps.entrySet()) {
            Integer rest = null;
            if (step.getKey() == home) {
                rest = 0;
            } else if (!been.contains(step.getKey())) {
                Set<Integer> then = new HashSet<>(been);
                then.add(step.getKey());
                rest = wayHome(step.getKey(), home, then);
            }
            if (rest != null && (best == null || rest + step.getValue() > best)) {
                best = rest + step.getValue();
            }
        }
        return best;
    }

    int cycle(int a) {
        if (out(a, 0, 7)) {
            return BAD;
        }
        if (!isPlain()) {
            return STATE;
        }
        Integer best = wayHome(a, a, Set.of(a));
        return best == null ? NONE : best + 1000;
    }

    // ---- values

    /** The values that a term needs at once, as stream * 1000 + index (400 for all that lie above). */
    private static void namedAt(Tree tree, long i, Set<Integer> named) {
        if (i > 1000000000L) {
            throw new TooGreat();
        }
        switch (tree.op) {
            case 'd': break;
            case ':':
                if (i > 0) {
                    namedAt(tree.left, i - 1, named);
                }
                break;
            case 't': namedAt(tree.left, i + 1, named); break;
            case 'e': namedAt(tree.left, 2 * i, named); break;
            case 'o': namedAt(tree.left, 2 * i + 1, named); break;
            case 'z': namedAt(i % 2 == 0 ? tree.left : tree.right, i / 2, named); break;
            case '+':
            case '*':
                namedAt(tree.left, i, named);
                namedAt(tree.right, i, named);
                break;
            default: named.add((tree.op - 'A') * 1000 + (int) Math.min(i, 400));
        }
    }

    /** The value of a term at an index; null if it is not known from the values that are. */
    private static Integer evaluate(Tree tree, long i, int m, Integer[][] values) {
        if (i > 1000000000L) {
            return null;
        }
        switch (tree.op) {
            case 'd': return tree.digit % m;
            case ':': return i == 0 ? Integer.valueOf(tree.digit % m) : evaluate(tree.left, i - 1, m, values);
            case 't': return evaluate(tree.left, i + 1, m, values);
            case 'e': return evaluate(tree.left, 2 * i, m, values);
            case 'o': return evaluate(tree.left, 2 * i + 1, m, values);
            case 'z': return evaluate(i % 2 == 0 ? tree.left : tree.right, i / 2, m, values);
            case '+':
            case '*':
                Integer left = evaluate(tree.left, i, m, values);
                Integer right = evaluate(tree.right, i, m, values);
                if (left == null || right == null) {
                    return null;
                }
                return (tree.op == '+' ? left + right : left * right) % m;
            default: return i < 400 ? values[tree.op - 'A'][(int) i] : null;
        }
    }

    private static Integer[][] allValues(Snapshot system) {
        Integer[][] values = new Integer[8][400];
        for (boolean more = true; more; ) {
            more = false;
            for (int a = 0; a < 8; a++) {
                for (int i = 0; i < 400 && system.trees[a] != null; i++) {
                    if (values[a][i] == null) {
                        values[a][i] = evaluate(system.trees[a], i, system.modulus, values);
                        more |= values[a][i] != null;
                    }
                }
            }
        }
        return values;
    }

    private Integer[][] now() {
        if (known == null) {
            known = allValues(snapshot());
        }
        return known;
    }

    private int reach(int a) {
        int i = 0;
        while (i < 400 && now()[a][i] != null) {
            i++;
        }
        return i;
    }

    int value(int a, int i) {
        if (out(a, 0, 7) || out(i, 0, 399)) {
            return BAD;
        }
        return now()[a][i] == null ? NONE : now()[a][i];
    }

    private boolean repeats(int a, int q, int p) {
        for (int i = q; i + p < 200; i++) {
            if (!now()[a][i].equals(now()[a][i + p])) {
                return false;
            }
        }
        return true;
    }

    private int period(int a, boolean tellLength) {
        if (reach(a) < 200) {
            return NONE;
        }
        for (int p = 1; p <= 200; p++) {
            for (int q = 0; q + 2 * p <= 200; q++) {
                if (repeats(a, q, p)) {
                    return tellLength ? p : q;
                }
            }
        }
        return NONE;
    }

    int stream(int a, int what) {
        if (out(a, 0, 7) || out(what, 0, 5)) {
            return BAD;
        }
        List<Integer> before = Arrays.asList(now()[a]).subList(0, reach(a));
        switch (what) {
            case 0: return trees[a] == null ? NONE : trees[a].size();
            case 1: return before.size();
            case 2: return new HashSet<>(before).size();
            case 3: return before.stream().mapToInt(Integer::intValue).sum();
            case 4: return period(a, true);
            default: return period(a, false);
        }
    }

    int parting(int a, int b) {
        if (out(a, 0, 7) || out(b, 0, 7)) {
            return BAD;
        }
        for (int i = 0; i < 400; i++) {
            if (now()[a][i] != null && now()[b][i] != null && !now()[a][i].equals(now()[b][i])) {
                return i;
            }
        }
        return NONE;
    }

    int alike(int a) {
        if (out(a, 0, 7)) {
            return BAD;
        }
        int set = 0;
        for (int b = 0; b < 8; b++) {
            set |= b != a && reach(b) == reach(a) && parting(a, b) == NONE ? 1 << b : 0;
        }
        return set;
    }

    /** Rounds: the values whose needs are all ranked get their ranks, until the one that is asked for has its own. */
    private int rank(int wanted, Set<Integer> needed) {
        Map<Integer, Integer> ranks = new HashMap<>();
        List<Integer> open = new ArrayList<>(needed);
        open.add(wanted);
        while (!ranks.containsKey(wanted)) {
            for (int k = open.size() - 1; k >= 0; k--) {
                Set<Integer> atOnce = new HashSet<>();
                namedAt(trees[open.get(k) / 1000], open.get(k) % 1000, atOnce);
                if (ranks.keySet().containsAll(atOnce)) {
                    ranks.put(open.get(k), atOnce.stream().mapToInt(ranks::get).max().orElse(-1) + 1);
                    open.remove(k);
                }
            }
        }
        return ranks.get(wanted);
    }

    int needs(int a, int i, int what) {
        if (out(a, 0, 7) || out(i, 0, 399) || out(what, 0, 3)) {
            return BAD;
        }
        if (now()[a][i] == null) {
            return NONE;
        }
        Set<Integer> needed = new HashSet<>();
        List<Integer> fresh = new ArrayList<>(List.of(a * 1000 + i));
        while (!fresh.isEmpty()) {
            int next = fresh.remove(fresh.size() - 1);
            Set<Integer> atOnce = new HashSet<>();
            namedAt(trees[next / 1000], next % 1000, atOnce);
            atOnce.removeAll(needed);
            needed.addAll(atOnce);
            fresh.addAll(atOnce);
        }
        switch (what) {
            case 0: return needed.size();
            case 1: return rank(a * 1000 + i, needed);
            case 2: return needed.stream().mapToInt(n -> n % 1000).max().orElse(NONE);
            default: return (int) needed.stream().mapToInt(n -> n / 1000).distinct().count();
        }
    }

    // ---- images

    int keep(int i) {
        if (out(i, 0, 1)) {
            return BAD;
        }
        images[i] = snapshot();
        return count(trees);
    }

    int back(int i) {
        if (out(i, 0, 1)) {
            return BAD;
        }
        if (images[i] == null) {
            return STATE;
        }
        recordChange();
        restore(images[i]);
        return count(trees);
    }

    int changed(int a, int i) {
        if (out(a, 0, 7) || out(i, 0, 1)) {
            return BAD;
        }
        if (images[i] == null) {
            return STATE;
        }
        Integer[] before = imageKnown.computeIfAbsent(images[i], NaiveJudge::allValues)[a];
        for (int k = 0; k < 400; k++) {
            Integer present = now()[a][k];
            if (present == null ? before[k] != null : !present.equals(before[k])) {
                return k;
            }
        }
        return NONE;
    }
}
