import java.util.Arrays;

/** A judge of endless sequences that are given by equations. */
public final class StreamJudge {
    public static final int BAD = -1, STATE = -2, FULL = -3, NONE = -9;

    private static final int STREAMS = 8;
    private static final int IMAGES = 2;
    /** The values of a stream that are looked at have the indices below this. */
    private static final int SPAN = 400;
    /** Every value that can be asked for has a cell: stream * SPAN + index. */
    private static final int CELLS = STREAMS * SPAN;
    private static final int PERIOD_SPAN = 200;
    private static final int LEAST_MODULUS = 2;
    private static final int GREATEST_MODULUS = 10;
    private static final int GREATEST_SIZE = 120;
    private static final int GREATEST_INDEX = 1000000000;
    private static final int LAST_TOLD = 6;
    private static final int LAST_PROPERTY = 5;
    private static final int LAST_NEED = 3;

    private final Text text;
    private final Equations present;
    private final History history;
    private final Rewriting rewriting;
    /** An image that keeps nothing is null. */
    private final Equations[] images;
    /** The greater rows are made when a call first needs them, so that an object that is never asked stays small. */
    private final Values[] imageValues;
    private Values presentValues;
    private Workspace workspace;
    private Cycles cycles;

    public StreamJudge() {
        text = new Text();
        present = new Equations();
        history = new History();
        rewriting = new Rewriting();
        images = new Equations[IMAGES];
        imageValues = new Values[IMAGES];
    }

    // ---- the text

    public int write(int code) {
        if (code < Text.LEAST_BYTE || code > Text.GREATEST_BYTE) {
            return BAD;
        }
        return text.append(code);
    }

    public int wipe() {
        return text.empty();
    }

    public int fault() {
        return text.firstFault();
    }

    // ---- changes

    public int define(int a) {
        if (!isStream(a)) {
            return BAD;
        }
        if (text.firstFault() != NONE) {
            return STATE;
        }
        Term term = text.read();
        beginChange();
        present.terms[a] = term;
        return term.size;
    }

    public int undefine(int a) {
        if (!isStream(a)) {
            return BAD;
        }
        Term term = present.terms[a];
        if (term == null) {
            return STATE;
        }
        beginChange();
        present.terms[a] = null;
        return term.size;
    }

    public int setModulus(int m) {
        if (m < LEAST_MODULUS || m > GREATEST_MODULUS) {
            return BAD;
        }
        int previous = present.modulus;
        beginChange();
        present.modulus = m;
        return previous;
    }

    public int insert(int a, int b) {
        if (!isStream(a) || !isStream(b)) {
            return BAD;
        }
        Term outer = present.terms[a];
        Term inner = present.terms[b];
        if (outer == null || inner == null) {
            return STATE;
        }
        if (outer.sizeWith(b, inner) > GREATEST_SIZE) {
            return FULL;
        }
        Term term = outer.with(b, inner);
        beginChange();
        present.terms[a] = term;
        return term.size;
    }

    public int simplify(int a) {
        if (!isStream(a)) {
            return BAD;
        }
        Term term = present.terms[a];
        if (term == null) {
            return STATE;
        }
        rewriting.load(term);
        int applied = rewriting.applyAll();
        if (applied < 0) {
            return FULL;
        }
        beginChange();
        if (applied > 0) {
            present.terms[a] = rewriting.result();
        }
        return applied;
    }

    public int undo() {
        if (history.count == 0) {
            return STATE;
        }
        history.restore(present);
        forgetPresentValues();
        return history.count;
    }

    // ---- what is told of equations

    public int told(int what) {
        if (what < 0 || what > LAST_TOLD) {
            return BAD;
        }
        switch (what) {
            case 0: return present.modulus;
            case 1: return present.count();
            case 2: return present.totalSize();
            case 3: return present.isPlain() ? 1 : 0;
            case 4: return text.length;
            case 5: return history.count;
            default: return countFull();
        }
    }

    public int listing(int a, int k) {
        if (!isStream(a) || k < 0) {
            return BAD;
        }
        Term term = present.terms[a];
        return term == null ? NONE : term.byteAt(k);
    }

    public int uses(int a) {
        if (!isStream(a)) {
            return BAD;
        }
        Term term = present.terms[a];
        return term == null ? NONE : term.streamSet();
    }

    public int cycle(int a) {
        if (!isStream(a)) {
            return BAD;
        }
        if (!present.isPlain()) {
            return STATE;
        }
        if (cycles == null) {
            cycles = new Cycles();
        }
        return cycles.greatestThrough(present, a);
    }

    // ---- what is told of values

    public int value(int a, int i) {
        if (!isStream(a) || !isIndex(i)) {
            return BAD;
        }
        Values values = valuesNow();
        values.find(a, i);
        return values.at(a, i);
    }

    public int stream(int a, int what) {
        if (!isStream(a) || what < 0 || what > LAST_PROPERTY) {
            return BAD;
        }
        if (what == 0) {
            Term term = present.terms[a];
            return term == null ? NONE : term.size;
        }
        Values values = valuesNow();
        values.findUpToReach(a);
        switch (what) {
            case 1: return values.reach(a);
            case 2: return values.countDifferent(a);
            case 3: return values.sum(a);
            case 4: return values.period(a);
            default: return values.lengthBeforePeriod(a);
        }
    }

    public int parting(int a, int b) {
        if (!isStream(a) || !isStream(b)) {
            return BAD;
        }
        Values values = valuesNow();
        values.findAll(a);
        values.findAll(b);
        return values.firstParting(a, b);
    }

    public int alike(int a) {
        if (!isStream(a)) {
            return BAD;
        }
        Values values = valuesNow();
        for (int b = 0; b < STREAMS; b++) {
            values.findAll(b);
        }
        return values.alikeSet(a);
    }

    public int needs(int a, int i, int what) {
        if (!isStream(a) || !isIndex(i) || what < 0 || what > LAST_NEED) {
            return BAD;
        }
        Values values = valuesNow();
        values.find(a, i);
        if (values.at(a, i) == NONE) {
            return NONE;
        }
        if (what == 1) {
            return values.rank(a, i);
        }
        int count = values.collectNeeded(a, i);
        switch (what) {
            case 0: return count;
            case 2: return sharedWorkspace().greatestIndex(count);
            default: return sharedWorkspace().countStreams(count);
        }
    }

    // ---- images

    public int keep(int i) {
        if (!isImage(i)) {
            return BAD;
        }
        Equations image = images[i];
        if (image == null) {
            image = new Equations();
            images[i] = image;
        }
        image.copyFrom(present);
        Values values = imageValues[i];
        if (values != null) {
            values.forget();
        }
        return image.count();
    }

    public int back(int i) {
        if (!isImage(i)) {
            return BAD;
        }
        Equations image = images[i];
        if (image == null) {
            return STATE;
        }
        beginChange();
        present.copyFrom(image);
        return present.count();
    }

    public int changed(int a, int i) {
        if (!isStream(a) || !isImage(i)) {
            return BAD;
        }
        Equations image = images[i];
        if (image == null) {
            return STATE;
        }
        Values before = imageValues[i];
        if (before == null) {
            before = new Values(image, sharedWorkspace());
            imageValues[i] = before;
        }
        Values now = valuesNow();
        now.findAll(a);
        before.findAll(a);
        return now.firstDifference(before, a);
    }

    // ---- helpers

    private static boolean isStream(int a) {
        return a >= 0 && a < STREAMS;
    }

    private static boolean isIndex(int i) {
        return i >= 0 && i < SPAN;
    }

    private static boolean isImage(int i) {
        return i >= 0 && i < IMAGES;
    }

    private int countFull() {
        Values values = valuesNow();
        int full = 0;
        for (int a = 0; a < STREAMS; a++) {
            values.findUpToReach(a);
            if (values.reach(a) == SPAN) {
                full++;
            }
        }
        return full;
    }

    private void beginChange() {
        history.record(present);
        forgetPresentValues();
    }

    private void forgetPresentValues() {
        if (presentValues != null) {
            presentValues.forget();
        }
    }

    private Workspace sharedWorkspace() {
        if (workspace == null) {
            workspace = new Workspace();
        }
        return workspace;
    }

    private Values valuesNow() {
        if (presentValues == null) {
            presentValues = new Values(present, sharedWorkspace());
        }
        return presentValues;
    }

    /**
     * How the parts of a term are coded: by the byte that begins them in a text, but for a front,
     * whose code holds its digit too, so that a term has one code for each part.
     */
    private static final class Code {
        static final int FRONT = 128;

        static boolean isStreamName(int code) {
            return code >= 'A' && code < 'A' + STREAMS;
        }

        static boolean isDigit(int code) {
            return code >= '0' && code <= '9';
        }

        static boolean isFront(int code) {
            return code >= FRONT;
        }

        static boolean isLeaf(int code) {
            return isStreamName(code) || isDigit(code);
        }

        static boolean isPair(int code) {
            return code == '+' || code == '*' || code == 'z';
        }

        static boolean isPlain(int code) {
            return code != 'z' && code != 'e' && code != 'o';
        }

        /** How many terms follow a byte of a text that begins a term; -1 if the byte begins none. */
        static int operands(int code) {
            if (isLeaf(code)) {
                return 0;
            }
            if (isPair(code)) {
                return 2;
            }
            return code == ':' || code == 't' || code == 'e' || code == 'o' ? 1 : -1;
        }

        static int[] endsOf(int[] codes, int size) {
            int[] ends = new int[size];
            findEnds(codes, size, ends);
            return ends;
        }

        /** Finds where each part ends; from the back, since a part ends where its last operand does. */
        static void findEnds(int[] codes, int size, int[] ends) {
            for (int p = size - 1; p >= 0; p--) {
                if (isLeaf(codes[p])) {
                    ends[p] = p + 1;
                } else if (isPair(codes[p])) {
                    ends[p] = ends[ends[p + 1]];
                } else {
                    ends[p] = ends[p + 1];
                }
            }
        }

        /** The positions at which streams are named. */
        static int[] findMentions(int[] codes, int size) {
            int count = 0;
            for (int p = 0; p < size; p++) {
                if (isStreamName(codes[p])) {
                    count++;
                }
            }
            int[] mentions = new int[count];
            int filled = 0;
            for (int p = 0; p < size && filled < count; p++) {
                if (isStreamName(codes[p])) {
                    mentions[filled] = p;
                    filled++;
                }
            }
            return mentions;
        }
    }

    /** The text that terms are read from. */
    private static final class Text {
        static final int LEAST_BYTE = 32;
        static final int GREATEST_BYTE = 126;
        private static final int ROOM = 80;
        private static final int BLANK = 32;

        private final int[] bytes = new int[ROOM];
        private final int[] codes = new int[ROOM];
        private int length;

        int append(int code) {
            if (length >= ROOM) {
                return FULL;
            }
            bytes[length] = code;
            length++;
            return length;
        }

        int empty() {
            int before = length;
            length = 0;
            return before;
        }

        int firstFault() {
            int missing = 1;
            boolean digitIsDue = false;
            for (int p = 0; p < length; p++) {
                int code = bytes[p];
                if (code == BLANK) {
                    continue;
                }
                if (digitIsDue) {
                    if (!Code.isDigit(code)) {
                        return p;
                    }
                    digitIsDue = false;
                    continue;
                }
                int operands = Code.operands(code);
                if (missing == 0 || operands < 0) {
                    return p;
                }
                missing += operands - 1;
                digitIsDue = code == ':';
            }
            return missing > 0 ? length : NONE;
        }

        /** The term of the text, which must have no fault. */
        Term read() {
            int size = 0;
            boolean digitIsDue = false;
            for (int p = 0; p < length; p++) {
                int code = bytes[p];
                if (code == BLANK) {
                    continue;
                }
                if (code == ':') {
                    digitIsDue = true;
                    continue;
                }
                codes[size] = digitIsDue ? Code.FRONT + (code - '0') : code;
                size++;
                digitIsDue = false;
            }
            return new Term(codes, size);
        }
    }

    /**
     * A term, part by part in the order of its text. It is never changed, so that states can share it,
     * and it is whole: the operands of each part stand behind it.
     */
    private static final class Term {
        final int size;
        final int[] codes;
        /** For each part the position of the next one that is not within it. */
        final int[] ends;
        /** The positions of the parts that name a stream. */
        final int[] mentions;

        Term(int[] source, int length) {
            size = length;
            codes = Arrays.copyOf(source, length);
            ends = Code.endsOf(source, length);
            mentions = Code.findMentions(source, length);
        }

        /** The stream that is named by the part at p, which must be one of the mentions. */
        int streamAt(int p) {
            return codes[p] - 'A';
        }

        int byteAt(int k) {
            int written = 0;
            for (int p = 0; p < size; p++) {
                int code = codes[p];
                boolean front = Code.isFront(code);
                if (written == k) {
                    return front ? ':' : code;
                }
                written++;
                if (!front) {
                    continue;
                }
                if (written == k) {
                    return '0' + (code - Code.FRONT);
                }
                written++;
            }
            return NONE;
        }

        int streamSet() {
            int set = 0;
            for (int p : mentions) {
                set |= 1 << streamAt(p);
            }
            return set;
        }

        boolean isPlain() {
            for (int p = 0; p < size; p++) {
                if (!Code.isPlain(codes[p])) {
                    return false;
                }
            }
            return true;
        }

        /** The size that with(b, inner) would have. */
        int sizeWith(int b, Term inner) {
            int total = size;
            for (int p : mentions) {
                if (streamAt(p) == b) {
                    total += inner.size - 1;
                }
            }
            return total;
        }

        /** This term with the other one for each occurrence of the stream b. */
        Term with(int b, Term inner) {
            int[] joined = new int[sizeWith(b, inner)];
            int filled = 0;
            for (int p = 0; p < size; p++) {
                if (codes[p] == 'A' + b) {
                    System.arraycopy(inner.codes, 0, joined, filled, inner.size);
                    filled += inner.size;
                } else {
                    joined[filled] = codes[p];
                    filled++;
                }
            }
            return new Term(joined, filled);
        }
    }

    /** A modulus and the equations of all streams. */
    private static final class Equations {
        int modulus = LEAST_MODULUS;
        /** A stream without an equation has null. */
        final Term[] terms = new Term[STREAMS];

        void copyFrom(Equations other) {
            modulus = other.modulus;
            for (int a = 0; a < STREAMS; a++) {
                terms[a] = other.terms[a];
            }
        }

        int count() {
            int found = 0;
            for (int a = 0; a < STREAMS; a++) {
                if (terms[a] != null) {
                    found++;
                }
            }
            return found;
        }

        int totalSize() {
            int total = 0;
            for (int a = 0; a < STREAMS; a++) {
                if (terms[a] != null) {
                    total += terms[a].size;
                }
            }
            return total;
        }

        boolean isPlain() {
            for (int a = 0; a < STREAMS; a++) {
                if (terms[a] != null && !terms[a].isPlain()) {
                    return false;
                }
            }
            return true;
        }
    }

    /** The latest states before changes, in a ring whose rows are used again. */
    private static final class History {
        private static final int ROOM = 8;

        private final Equations[] states = new Equations[ROOM];
        private int oldest;
        private int count;

        void record(Equations now) {
            int slot = (oldest + count) % ROOM;
            Equations state = states[slot];
            if (state == null) {
                state = new Equations();
                states[slot] = state;
            }
            state.copyFrom(now);
            if (count < ROOM) {
                count++;
            } else {
                oldest = (oldest + 1) % ROOM;
            }
        }

        void restore(Equations now) {
            if (count == 0) {
                return;
            }
            count--;
            Equations latest = states[(oldest + count) % ROOM];
            if (latest != null) {
                now.copyFrom(latest);
            }
        }
    }

    /** Simplifies one equation in rows of its own, so that a refusal leaves the equation as it was. */
    private static final class Rewriting {
        /**
         * Far above what any equation can take: only tails are ever doubled, and the outer terms come first, so that
         * all tails that cross a part do so in one go, at most 120 of them.
         */
        private static final int MOST_APPLICATIONS = 1000000;

        private final int[] codes = new int[GREATEST_SIZE];
        private final int[] ends = new int[GREATEST_SIZE];
        private final int[] spare = new int[GREATEST_SIZE];
        private int size;

        void load(Term term) {
            size = Math.min(term.size, GREATEST_SIZE);
            System.arraycopy(term.codes, 0, codes, 0, size);
        }

        Term result() {
            return new Term(codes, size);
        }

        /** How often a rule was applied; FULL if the equation grew too great. */
        int applyAll() {
            for (int applied = 0; applied < MOST_APPLICATIONS; applied++) {
                Code.findEnds(codes, size, ends);
                int p = firstMatch();
                if (p < 0) {
                    return applied;
                }
                if (!apply(p)) {
                    return FULL;
                }
            }
            return MOST_APPLICATIONS;
        }

        private int firstMatch() {
            for (int p = 0; p < size; p++) {
                if (matches(p)) {
                    return p;
                }
            }
            return -1;
        }

        private boolean matches(int p) {
            int code = codes[p];
            if (code == 't') {
                return codes[p + 1] != 't' && !Code.isStreamName(codes[p + 1]);
            }
            if (code == 'e' || code == 'o') {
                return codes[p + 1] == 'z' || Code.isDigit(codes[p + 1]);
            }
            return code == 'z' && isSplitTwin(p);
        }

        /** Whether the zip at p is one of the evens and the odds of the same term. */
        private boolean isSplitTwin(int p) {
            int second = ends[p + 1];
            return codes[p + 1] == 'e' && codes[second] == 'o' && areWrittenAlike(p + 2, second + 1);
        }

        private boolean areWrittenAlike(int p, int q) {
            int length = ends[p] - p;
            if (ends[q] - q != length) {
                return false;
            }
            for (int k = 0; k < length; k++) {
                if (codes[p + k] != codes[q + k]) {
                    return false;
                }
            }
            return true;
        }

        /** Applies the rule that matches at p; false if there is no room for its outcome. */
        private boolean apply(int p) {
            int code = codes[p];
            if (code == 't') {
                return pushTail(p);
            }
            if (code == 'z') {
                keepFirst(p, ends[p + 1]);
            } else if (Code.isDigit(codes[p + 1])) {
                cut(p, p + 1);
            } else if (code == 'e') {
                keepFirst(p, ends[p + 2]);
            } else {
                cut(p, ends[p + 2]);
            }
            return true;
        }

        /** Leaves of the part at p only what stands between its first two codes and its second operand. */
        private void keepFirst(int p, int second) {
            cut(second, ends[second]);
            cut(p, p + 2);
        }

        private boolean pushTail(int p) {
            int inner = codes[p + 1];
            if (Code.isDigit(inner)) {
                cut(p, p + 1);
                return true;
            }
            if (Code.isFront(inner)) {
                cut(p, p + 2);
                return true;
            }
            if (inner == 'z') {
                turnZip(p);
                return true;
            }
            if (size >= GREATEST_SIZE) {
                return false;
            }
            codes[p] = inner;
            codes[p + 1] = 't';
            putTail(Code.isPair(inner) ? ends[p + 2] : p + 2);
            return true;
        }

        /** t z T U becomes z U t T, in the same room. */
        private void turnZip(int p) {
            int first = p + 2;
            int second = ends[first];
            int firstLength = second - first;
            int secondLength = ends[second] - second;
            System.arraycopy(codes, first, spare, 0, firstLength);
            codes[p] = 'z';
            System.arraycopy(codes, second, codes, p + 1, secondLength);
            codes[p + 1 + secondLength] = 't';
            System.arraycopy(spare, 0, codes, p + 2 + secondLength, firstLength);
        }

        private void cut(int from, int to) {
            System.arraycopy(codes, to, codes, from, size - to);
            size -= to - from;
        }

        private void putTail(int p) {
            System.arraycopy(codes, p, codes, p + 1, size - p);
            codes[p] = 't';
            size++;
        }
    }

    /** Finds the greatest cycles of a plain system. */
    private static final class Cycles {
        private static final int SETS = 1 << STREAMS;
        /** Below every sum of shifts, also after one more shift. */
        private static final int NO_WAY = -1000000;
        private static final int OFFSET = 1000;

        private final int[] shifts = new int[GREATEST_SIZE];
        /** The greatest shift from one stream to another one: from * STREAMS + to. */
        private final int[] steps = new int[STREAMS * STREAMS];
        /** The greatest sum of a walk from home over a set of streams to its last one: set * STREAMS + last. */
        private final int[] sums = new int[SETS * STREAMS];

        int greatestThrough(Equations equations, int home) {
            findSteps(equations);
            Arrays.fill(sums, NO_WAY);
            sums[(1 << home) * STREAMS + home] = 0;
            int greatest = NO_WAY;
            for (int set = 1; set < SETS; set++) {
                for (int last = 0; last < STREAMS; last++) {
                    int sum = sums[set * STREAMS + last];
                    int closing = steps[last * STREAMS + home];
                    if (sum == NO_WAY) {
                        continue;
                    }
                    if (closing != NO_WAY) {
                        greatest = Math.max(greatest, sum + closing);
                    }
                    goOn(set, last, sum);
                }
            }
            return greatest == NO_WAY ? NONE : greatest + OFFSET;
        }

        private void goOn(int set, int last, int sum) {
            for (int next = 0; next < STREAMS; next++) {
                int step = steps[last * STREAMS + next];
                if (step == NO_WAY || (set >> next & 1) == 1) {
                    continue;
                }
                int place = (set | 1 << next) * STREAMS + next;
                sums[place] = Math.max(sums[place], sum + step);
            }
        }

        private void findSteps(Equations equations) {
            Arrays.fill(steps, NO_WAY);
            for (int from = 0; from < STREAMS; from++) {
                Term term = equations.terms[from];
                if (term == null) {
                    continue;
                }
                findShifts(term);
                for (int p : term.mentions) {
                    int place = from * STREAMS + term.streamAt(p);
                    steps[place] = Math.max(steps[place], shifts[p]);
                }
            }
        }

        private void findShifts(Term term) {
            shifts[0] = 0;
            for (int p = 0; p < term.size; p++) {
                int code = term.codes[p];
                if (Code.isLeaf(code)) {
                    continue;
                }
                if (Code.isPair(code)) {
                    shifts[p + 1] = shifts[p];
                    shifts[term.ends[p + 1]] = shifts[p];
                } else {
                    shifts[p + 1] = shifts[p] + (code == 't' ? 1 : -1);
                }
            }
        }
    }

    /** Rows for the work on values; nothing is kept in them between calls. */
    private static final class Workspace {
        private static final int UNNEEDED = -1;
        private static final int BITS = 64;

        /** The index at which each part of a term is needed, or UNNEEDED. */
        private final int[] indices = new int[GREATEST_SIZE];
        private final int[] results = new int[GREATEST_SIZE];
        /** Cells: those that wait for others, or behind the first one those that it needs. */
        private final int[] queue = new int[CELLS];
        private final long[] seen = new long[CELLS / BITS];

        /** Finds the indices for a term at an index; false if one is too great. */
        boolean spread(Term term, int index) {
            indices[0] = index;
            for (int p = 0; p < term.size; p++) {
                if (indices[p] > GREATEST_INDEX) {
                    return false;
                }
                spreadPart(term, p, indices[p]);
            }
            return true;
        }

        private void spreadPart(Term term, int p, int index) {
            int code = term.codes[p];
            boolean needed = index != UNNEEDED;
            switch (code) {
                case '+':
                case '*':
                    indices[p + 1] = index;
                    indices[term.ends[p + 1]] = index;
                    break;
                case 'z':
                    boolean even = index % 2 == 0;
                    indices[p + 1] = needed && even ? index / 2 : UNNEEDED;
                    indices[term.ends[p + 1]] = needed && !even ? index / 2 : UNNEEDED;
                    break;
                case 't':
                    indices[p + 1] = needed ? index + 1 : UNNEEDED;
                    break;
                case 'e':
                    indices[p + 1] = needed ? 2 * index : UNNEEDED;
                    break;
                case 'o':
                    indices[p + 1] = needed ? 2 * index + 1 : UNNEEDED;
                    break;
                default:
                    if (code >= Code.FRONT) {
                        indices[p + 1] = needed && index > 0 ? index - 1 : UNNEEDED;
                    }
            }
        }

        /** Whether the part at p, behind spread, is needed. */
        boolean isNeeded(int p) {
            return indices[p] != UNNEEDED;
        }

        /** The value of a term, behind spread; all values that it names must be known. */
        int evaluate(Term term, int[] cells, int modulus) {
            for (int p = term.size - 1; p >= 0; p--) {
                if (indices[p] != UNNEEDED) {
                    results[p] = resultOf(term, p, cells, modulus);
                }
            }
            return results[0];
        }

        private int resultOf(Term term, int p, int[] cells, int modulus) {
            int code = term.codes[p];
            switch (code) {
                case '+': return (results[p + 1] + results[term.ends[p + 1]]) % modulus;
                case '*': return results[p + 1] * results[term.ends[p + 1]] % modulus;
                case 'z': return indices[p] % 2 == 0 ? results[p + 1] : results[term.ends[p + 1]];
                case 't':
                case 'e':
                case 'o': return results[p + 1];
                default: break;
            }
            if (code >= Code.FRONT) {
                return indices[p] == 0 ? (code - Code.FRONT) % modulus : results[p + 1];
            }
            return code <= '9' ? (code - '0') % modulus : cells[(code - 'A') * SPAN + indices[p]] % Values.KNOWN;
        }

        void clearSeen() {
            Arrays.fill(seen, 0L);
        }

        /** Marks a cell as seen; false if it was. */
        boolean see(int cell) {
            long bit = 1L << cell % BITS;
            if ((seen[cell / BITS] & bit) != 0) {
                return false;
            }
            seen[cell / BITS] |= bit;
            return true;
        }

        int greatestIndex(int count) {
            int greatest = NONE;
            for (int k = 1; k <= count && k < CELLS; k++) {
                greatest = Math.max(greatest, queue[k] % SPAN);
            }
            return greatest;
        }

        int countStreams(int count) {
            int set = 0;
            for (int k = 1; k <= count && k < CELLS; k++) {
                set |= 1 << queue[k] / SPAN;
            }
            return Integer.bitCount(set);
        }
    }

    /** The values that follow from equations, each found when it is first needed. */
    private static final class Values {
        private static final int UNTOUCHED = 0;
        private static final int OPEN = 1;
        private static final int STUCK = 2;
        /** A cell from KNOWN on holds KNOWN * (rank + 1) + value. */
        static final int KNOWN = 16;
        private static final int SETTLED = -1;

        private final Equations equations;
        private final Workspace workspace;
        private final int[] cells = new int[CELLS];
        private boolean anyTouched;

        Values(Equations equations, Workspace workspace) {
            this.equations = equations;
            this.workspace = workspace;
        }

        private static int rankIn(int cell) {
            return cell / KNOWN - 1;
        }

        void forget() {
            if (anyTouched) {
                Arrays.fill(cells, UNTOUCHED);
                anyTouched = false;
            }
        }

        void find(int a, int i) {
            int place = a * SPAN + i;
            if (cells[place] == UNTOUCHED) {
                solve(place);
            }
        }

        void findAll(int a) {
            for (int place = a * SPAN; place < (a + 1) * SPAN; place++) {
                if (cells[place] == UNTOUCHED) {
                    solve(place);
                }
            }
        }

        void findUpToReach(int a) {
            boolean reached = true;
            for (int place = a * SPAN; place < (a + 1) * SPAN && reached; place++) {
                if (cells[place] == UNTOUCHED) {
                    solve(place);
                }
                reached = cells[place] >= KNOWN;
            }
        }

        // The methods below tell only of what has been found: they stay flat, since finding goes deep.

        /** The value of a stream at an index; NONE if it cannot be computed. */
        int at(int a, int i) {
            int cell = cells[a * SPAN + i];
            return cell < KNOWN ? NONE : cell % KNOWN;
        }

        int rank(int a, int i) {
            return rankIn(cells[a * SPAN + i]);
        }

        /** Each turn opens a cell for the first time or settles one for good, so two turns a cell are enough. */
        private void solve(int place) {
            anyTouched = true;
            int[] waiting = workspace.queue;
            waiting[0] = place;
            cells[place] = OPEN;
            int depth = 1;
            for (int turn = 0; turn < 2 * CELLS && depth > 0; turn++) {
                int next = settle(waiting[depth - 1]);
                if (next == SETTLED || depth >= CELLS) {
                    depth--;
                } else {
                    cells[next] = OPEN;
                    waiting[depth] = next;
                    depth++;
                }
            }
        }

        /**
         * Settles a cell, or answers an untouched one that it needs first. Who needs an open cell is
         * needed by that one in turn, so it is stuck whatever else it needs.
         */
        private int settle(int place) {
            Term term = equations.terms[place / SPAN];
            if (term == null || !workspace.spread(term, place % SPAN)) {
                cells[place] = STUCK;
                return SETTLED;
            }
            int rank = 0;
            for (int p : term.mentions) {
                if (!workspace.isNeeded(p)) {
                    continue;
                }
                int needed = neededCell(term, p);
                if (needed >= 0 && cells[needed] == UNTOUCHED) {
                    return needed;
                }
                if (needed < 0 || cells[needed] < KNOWN) {
                    cells[place] = STUCK;
                    return SETTLED;
                }
                rank = Math.max(rank, rankIn(cells[needed]) + 1);
            }
            cells[place] = KNOWN * (rank + 1) + workspace.evaluate(term, cells, equations.modulus);
            return SETTLED;
        }

        /** The cell of the value that the part at p names; -1 if it lies beyond all cells. */
        private int neededCell(Term term, int p) {
            int index = workspace.indices[p];
            return index < SPAN ? term.streamAt(p) * SPAN + index : -1;
        }

        /** Collects the cells that a known value needs, in the workspace's queue from 1 on; answers how many. */
        int collectNeeded(int a, int i) {
            int[] queue = workspace.queue;
            workspace.clearSeen();
            queue[0] = a * SPAN + i;
            workspace.see(queue[0]);
            int end = 1;
            for (int k = 0; k < end && k < CELLS; k++) {
                end = collectAtOnce(queue[k], end);
            }
            return end - 1;
        }

        private int collectAtOnce(int place, int end) {
            Term term = equations.terms[place / SPAN];
            if (term == null || !workspace.spread(term, place % SPAN)) {
                return end;
            }
            int filled = end;
            for (int p : term.mentions) {
                if (!workspace.isNeeded(p)) {
                    continue;
                }
                int needed = neededCell(term, p);
                if (needed >= 0 && filled < CELLS && workspace.see(needed)) {
                    workspace.queue[filled] = needed;
                    filled++;
                }
            }
            return filled;
        }

        int reach(int a) {
            for (int i = 0; i < SPAN; i++) {
                if (at(a, i) == NONE) {
                    return i;
                }
            }
            return SPAN;
        }

        int countDifferent(int a) {
            int reach = reach(a);
            int set = 0;
            for (int i = 0; i < reach; i++) {
                set |= 1 << at(a, i);
            }
            return Integer.bitCount(set);
        }

        int sum(int a) {
            int reach = reach(a);
            int total = 0;
            for (int i = 0; i < reach; i++) {
                total += at(a, i);
            }
            return total;
        }

        int period(int a) {
            if (reach(a) < PERIOD_SPAN) {
                return NONE;
            }
            for (int p = 1; 2 * p <= PERIOD_SPAN; p++) {
                if (lengthBefore(a, p) + 2 * p <= PERIOD_SPAN) {
                    return p;
                }
            }
            return NONE;
        }

        int lengthBeforePeriod(int a) {
            int p = period(a);
            return p == NONE ? NONE : lengthBefore(a, p);
        }

        /** The least index from which on the values repeat after p. */
        private int lengthBefore(int a, int p) {
            for (int i = PERIOD_SPAN - p - 1; i >= 0; i--) {
                if (at(a, i) != at(a, i + p)) {
                    return i + 1;
                }
            }
            return 0;
        }

        int firstParting(int a, int b) {
            for (int i = 0; i < SPAN; i++) {
                int one = at(a, i);
                int other = at(b, i);
                if (one != NONE && other != NONE && one != other) {
                    return i;
                }
            }
            return NONE;
        }

        int alikeSet(int a) {
            int reach = reach(a);
            int set = 0;
            for (int b = 0; b < STREAMS; b++) {
                if (b != a && reach(b) == reach && firstParting(a, b) == NONE) {
                    set |= 1 << b;
                }
            }
            return set;
        }

        int firstDifference(Values other, int a) {
            for (int i = 0; i < SPAN; i++) {
                if (at(a, i) != other.at(a, i)) {
                    return i;
                }
            }
            return NONE;
        }
    }
}
