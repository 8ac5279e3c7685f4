/** What the tests share: counting wrong answers, and writing and reading equations as texts. */
final class Check {
    private static int answers = 0;
    private static int wrong = 0;

    private Check() {
    }

    static int answers() {
        return answers;
    }

    static int wrong() {
        return wrong;
    }

    static void due(String call, long got, long want) {
        answers++;
        if (got != want) {
            wrong++;
            System.out.println(call + " answered " + got + ", due is " + want);
        }
    }

    static void due(String call, String got, String want) {
        answers++;
        if (!got.equals(want)) {
            wrong++;
            System.out.println(call + " answered '" + got + "', due is '" + want + "'");
        }
    }

    static void finish() {
        System.out.println(answers + " answers, " + wrong + " of them wrong");
        if (wrong != 0 || answers == 0) {
            System.exit(1);
        }
    }

    /** Puts a text in place of the one that is there. */
    static void text(StreamJudge x, String text) {
        x.wipe();
        for (int k = 0; k < text.length(); k++) {
            due("write of '" + text + "'", x.write(text.charAt(k)), k + 1);
        }
    }

    static int faultOf(StreamJudge x, String text) {
        text(x, text);
        return x.fault();
    }

    /** Defines a stream by a text; answers what define answers. */
    static int equation(StreamJudge x, int a, String text) {
        text(x, text);
        return x.define(a);
    }

    /** A judge with equations for the streams from 0 on; "" leaves a stream without one. */
    static StreamJudge judge(int modulus, String... equations) {
        StreamJudge x = new StreamJudge();
        x.setModulus(modulus);
        for (int a = 0; a < equations.length; a++) {
            if (!equations[a].isEmpty()) {
                due("define by " + equations[a] + " has a size", equation(x, a, equations[a]) > 0 ? 1 : 0, 1);
            }
        }
        return x;
    }

    static String listingOf(StreamJudge x, int a) {
        StringBuilder bytes = new StringBuilder();
        for (int k = 0; k < 300; k++) {
            int code = x.listing(a, k);
            if (code < 0) {
                break;
            }
            bytes.append((char) code);
        }
        return bytes.toString();
    }

    /** Evens and odds that lead from the index 0 to a greater one. */
    static String upTo(int index) {
        StringBuilder kinds = new StringBuilder();
        for (int rest = index; rest > 0; rest /= 2) {
            kinds.append(rest % 2 == 0 ? 'e' : 'o');
        }
        return kinds.reverse().toString();
    }

    /** The first values of a stream, '?' for one that cannot be computed. */
    static String valuesOf(StreamJudge x, int a, int count) {
        StringBuilder values = new StringBuilder();
        for (int i = 0; i < count; i++) {
            int value = x.value(a, i);
            values.append(value == StreamJudge.NONE ? "?" : String.valueOf(value));
        }
        return values.toString();
    }
}
