import java.util.Random;

/** Random runs, each answer compared with that of NaiveJudge; the seeds are fixed, so every run is the same. */
public final class RandomRunsTest {
    private static final int RUNS = 400;
    private static final int CALLS = 512;
    /** What the terms of a run are made of: plain systems, all kinds, and much that simplify moves or grows. */
    private static final String[] KINDS = {":t+*", ":t+*zeo", ":+*zeo", "ttttt+*zeo", "ttez", "tttte+"};

    private RandomRunsTest() {
    }

    public static void main(String[] args) {
        int first = args.length > 0 ? Integer.parseInt(args[0]) : 0;
        int runs = args.length > 1 ? Integer.parseInt(args[1]) : RUNS;
        for (int run = first; run < first + runs; run++) {
            compareRun(run);
        }
        Check.finish();
    }

    private static void compareRun(int seed) {
        Random random = new Random(seed);
        StreamJudge judge = new StreamJudge();
        NaiveJudge naive = new NaiveJudge();
        String kinds = KINDS[seed % KINDS.length];
        int streams = 1 + random.nextInt(8);
        for (int call = 0; call < CALLS; call++) {
            String where = "seed " + seed + ", call " + call + ", ";
            if (random.nextInt(6) == 0) {
                String text = random.nextInt(5) == 0 ? broken(random, kinds, streams) : spaced(random, kinds, streams);
                Check.due(where + "wipe()", judge.wipe(), naive.wipe());
                for (int k = 0; k < text.length(); k++) {
                    int code = text.charAt(k);
                    Check.due(where + "write(" + code + ")", judge.write(code), naive.write(code));
                }
                Check.due(where + "fault of '" + text + "'", judge.fault(), naive.fault());
                int a = random.nextInt(streams);
                Check.due(where + "define(" + a + ")", judge.define(a), naive.define(a));
            } else {
                compareCall(random, where, streams, judge, naive);
            }
        }
        compareListings("seed " + seed + ", at the end, ", judge, naive);
    }

    private static void compareListings(String where, StreamJudge judge, NaiveJudge naive) {
        for (int a = 0; a < 8; a++) {
            for (int k = 0; k < 245; k++) {
                Check.due(where + "listing(" + a + ", " + k + ")", judge.listing(a, k), naive.listing(a, k));
            }
        }
    }

    /** Mostly within the bounds, now and then one beyond them, rarely far away. */
    private static int number(Random random, int bound) {
        int odd = random.nextInt(60);
        if (odd == 0) {
            return random.nextInt();
        }
        return odd == 1 ? -1 : odd == 2 ? bound : random.nextInt(bound);
    }

    private static void compareCall(Random random, String where, int streams, StreamJudge x, NaiveJudge y) {
        int a = number(random, random.nextInt(10) == 0 ? 8 : streams);
        int b = number(random, random.nextInt(10) == 0 ? 8 : streams);
        int i = number(random, random.nextBoolean() ? 400 : 20);
        int image = number(random, 2);
        int code = number(random, 127);
        int m = 2 + number(random, 9);
        int call = random.nextInt(30);
        int what = number(random, call == 11 ? 7 : call == 17 ? 6 : 4);
        String with = where + "a " + a + ", b " + b + ", i " + i + ", image " + image + ", what " + what + ": ";
        switch (call) {
            case 0: Check.due(with + "write " + code, x.write(code), y.write(code)); break;
            case 1: Check.due(with + "wipe", x.wipe(), y.wipe()); break;
            case 2: Check.due(with + "fault", x.fault(), y.fault()); break;
            case 3: Check.due(with + "define", x.define(a), y.define(a)); break;
            case 4: Check.due(with + "undefine", x.undefine(b), y.undefine(b)); break;
            case 5: Check.due(with + "setModulus " + m, x.setModulus(m), y.setModulus(m)); break;
            case 6:
            case 7:
            case 24:
            case 25: Check.due(with + "insert", x.insert(a, b), y.insert(a, b)); break;
            case 8:
            case 9:
            case 26:
            case 27: Check.due(with + "simplify", x.simplify(a), y.simplify(a)); break;
            case 10: Check.due(with + "undo", x.undo(), y.undo()); break;
            case 11: Check.due(with + "told", x.told(what), y.told(what)); break;
            case 12: Check.due(with + "listing", x.listing(a, i), y.listing(a, i)); break;
            case 13: Check.due(with + "uses", x.uses(a), y.uses(a)); break;
            case 14: Check.due(with + "cycle", x.cycle(a), y.cycle(a)); break;
            case 15:
            case 16: Check.due(with + "value", x.value(a, i), y.value(a, i)); break;
            case 17: Check.due(with + "stream", x.stream(a, what), y.stream(a, what)); break;
            case 18:
            case 28: Check.due(with + "parting", x.parting(a, b), y.parting(a, b)); break;
            case 19: Check.due(with + "alike", x.alike(a), y.alike(a)); break;
            case 20:
            case 29: Check.due(with + "needs", x.needs(a, i, what), y.needs(a, i, what)); break;
            case 21: Check.due(with + "keep", x.keep(image), y.keep(image)); break;
            case 22: Check.due(with + "back", x.back(image), y.back(image)); break;
            default: Check.due(with + "changed", x.changed(a, image), y.changed(a, image)); break;
        }
    }

    // ---- texts

    private static String leaf(Random random, int streams) {
        return random.nextInt(3) == 0 ? "" + random.nextInt(10) : "" + (char) ('A' + random.nextInt(streams));
    }

    /** Fronts are frequent, since without them most streams are stuck at once. */
    private static String term(Random random, String kinds, int streams, int depth) {
        if (depth == 0 || random.nextInt(6) == 0) {
            return leaf(random, streams);
        }
        boolean fronts = kinds.charAt(0) == ':';
        char kind = fronts && random.nextInt(3) == 0 ? ':' : kinds.charAt(random.nextInt(kinds.length()));
        String first = term(random, kinds, streams, depth - 1);
        if (kind == ':') {
            return ":" + random.nextInt(10) + first;
        }
        if (kind == 'z' && random.nextInt(3) == 0) {
            return "ze" + first + "o" + first;
        }
        return "+*z".indexOf(kind) < 0 ? kind + first : kind + first + term(random, kinds, streams, depth - 1);
    }

    private static String spaced(Random random, String kinds, int streams) {
        String term = term(random, kinds, streams, 1 + random.nextInt(9));
        if (term.length() > 78) {
            term = leaf(random, streams);
        }
        if (random.nextInt(4) > 0) {
            term = ":" + random.nextInt(10) + (random.nextBoolean() ? ":" + random.nextInt(10) : "") + term;
        }
        if (random.nextInt(15) == 0) {
            term = "e".repeat(random.nextInt(40)) + term;
        }
        StringBuilder text = new StringBuilder();
        boolean blanks = random.nextInt(4) == 0;
        for (int k = 0; k < term.length(); k++) {
            text.append(blanks && random.nextInt(4) == 0 ? " " : "").append(term.charAt(k));
        }
        return text.toString();
    }

    private static String broken(Random random, String kinds, int streams) {
        StringBuilder text = new StringBuilder(spaced(random, kinds, streams));
        int at = random.nextInt(text.length());
        switch (random.nextInt(3)) {
            case 0: text.setLength(at); break;
            case 1: text.insert(at, (char) (32 + random.nextInt(95))); break;
            default: text.append((char) (32 + random.nextInt(95))); break;
        }
        return text.toString();
    }
}
