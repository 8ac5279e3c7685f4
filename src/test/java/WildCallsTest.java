import java.util.Random;

/** No call throws or hangs, whatever its arguments are; runs longer than 512 calls go on answering. */
public final class WildCallsTest {
    private static final int[] EDGES = {
        Integer.MIN_VALUE, -1000, -9, -3, -2, -1, 0, 1, 2, 3, 4, 5, 6, 7, 8, 9, 10, 11, 31, 32, 79, 80, 81, 120, 121, 126,
        127, 199, 200, 201, 398, 399, 400, 401, 1000000000, 1000000001, Integer.MAX_VALUE,
    };
    private static final String PARTS = "ABCDEFGH0123456789:t+*zeo";

    private WildCallsTest() {
    }

    public static void main(String[] args) {
        for (int seed = 0; seed < 60; seed++) {
            run(new Random(seed), seed % 2 == 0 ? 600 : 3000);
        }
        Check.finish();
    }

    private static int any(Random random) {
        return random.nextInt(3) == 0 ? EDGES[random.nextInt(EDGES.length)] : random.nextInt(8);
    }

    private static void run(Random random, int calls) {
        StreamJudge x = new StreamJudge();
        for (int call = 0; call < calls; call++) {
            int a = any(random);
            int b = any(random);
            int c = any(random);
            int kind = random.nextInt(30);
            int answer = answerOf(x, random, kind, a, b, c);
            boolean known = answer >= 0 || answer == -1 || answer == -2 || answer == -3 || answer == -9;
            Check.due("answer " + answer + " of call " + kind + " is one of the document's", known ? 1 : 0, 1);
        }
    }

    private static int answerOf(StreamJudge x, Random random, int kind, int a, int b, int c) {
        switch (kind) {
            case 0: return x.write(a);
            case 1: return random.nextInt(8) == 0 ? x.wipe() : x.fault();
            case 2: return x.fault();
            case 3: return x.define(a);
            case 4: return random.nextInt(4) == 0 ? x.undefine(a) : x.uses(a);
            case 5: return x.setModulus(a);
            case 6: return x.insert(a, b);
            case 7: return x.simplify(a);
            case 8: return x.undo();
            case 9: return x.told(a);
            case 10: return x.listing(a, b);
            case 11: return x.uses(a);
            case 12: return x.cycle(a);
            case 13: return x.value(a, b);
            case 14: return x.stream(a, b);
            case 15: return x.parting(a, b);
            case 16: return x.alike(a);
            case 17: return x.needs(a, b, c);
            case 18: return x.keep(a);
            case 19: return x.back(a);
            case 20: return x.changed(a, b);
            default: return x.write(PARTS.charAt(random.nextInt(PARTS.length())));
        }
    }
}
