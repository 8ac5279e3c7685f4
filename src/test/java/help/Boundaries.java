import java.lang.reflect.InvocationTargetException;
import java.lang.reflect.Method;
import java.util.Arrays;
import java.util.Comparator;
import java.util.List;
import java.util.function.IntUnaryOperator;
import java.util.function.Supplier;
import java.util.function.ToIntFunction;

/** Runs tests that bear words of the document, and what such tests share. */
final class Boundaries {
    static final int[] NO_STREAMS = {-1, 8, 9, 64, 256, -8, Integer.MIN_VALUE, Integer.MAX_VALUE};
    static final int[] NO_INDICES = {-1, 400, 401, 3200, -400, Integer.MIN_VALUE, Integer.MAX_VALUE};
    static final int[] NO_IMAGES = {-1, 2, 3, Integer.MIN_VALUE, Integer.MAX_VALUE};

    private Boundaries() {
    }

    /** The tests of a class, in the order of their names, so that every run prints the same. */
    static List<Method> testsOf(Class<?> group) {
        return Arrays.stream(group.getDeclaredMethods())
            .filter(method -> method.isAnnotationPresent(Says.class))
            .sorted(Comparator.comparing(Method::getName))
            .toList();
    }

    static void run(Class<?> group) throws IllegalAccessException, InvocationTargetException {
        for (Method test : testsOf(group)) {
            Says says = test.getAnnotation(Says.class);
            int answers = Check.answers();
            int wrong = Check.wrong();
            test.setAccessible(true);
            test.invoke(null);
            Check.due(test.getName() + " has asked something", Check.answers() > answers ? 1 : 0, 1);
            if (Check.wrong() > wrong) {
                System.out.println("  in " + test.getName() + ": " + says.in() + ": "
                    + String.join(" .. ", says.words()));
            }
        }
        Check.finish();
    }

    /** Asks one call with each of some arguments; all must answer the same. */
    static void eachIs(String call, int[] arguments, IntUnaryOperator answer, int want) {
        for (int argument : arguments) {
            Check.due(call + " with " + argument, answer.applyAsInt(argument), want);
        }
    }

    /**
     * Makes the same judge twice, asks one of both what is refused, and compares what both tell then. Each look begins
     * with new judges, so that looks may change what they look at and a judge's 512 calls are enough.
     */
    static void refusedChangesNothing(String call, Supplier<StreamJudge> maker, ToIntFunction<StreamJudge> refused,
        int want) {
        for (Look look : Look.values()) {
            StreamJudge asked = maker.get();
            StreamJudge left = maker.get();
            Check.due(call, refused.applyAsInt(asked), want);
            Check.due(look + " behind " + call, look.at(asked), look.at(left));
        }
    }

    /** What can be seen of a judge, in parts. */
    enum Look {
        NUMBERS, TEXT, EQUATIONS, VALUES, HISTORY, IMAGES;

        String at(StreamJudge x) {
            StringBuilder seen = new StringBuilder();
            switch (this) {
                case NUMBERS: numbers(x, seen); break;
                case TEXT: text(x, seen); break;
                case EQUATIONS: equations(x, seen); break;
                case VALUES: values(x, seen); break;
                case HISTORY: history(x, seen); break;
                default: images(x, seen); break;
            }
            return seen.toString();
        }

        private static void numbers(StreamJudge x, StringBuilder seen) {
            for (int what = 0; what <= 6; what++) {
                seen.append(x.told(what)).append(' ');
            }
            for (int a = 0; a < 8; a++) {
                seen.append(x.uses(a)).append(' ').append(x.cycle(a)).append(' ').append(x.alike(a)).append(' ');
            }
        }

        /** A text with a fault is told by the fault; what is written behind it tells the length. */
        private static void text(StreamJudge x, StringBuilder seen) {
            seen.append(x.fault()).append(' ').append(x.told(4)).append(' ').append(x.define(7)).append(' ');
            seen.append(Check.listingOf(x, 7)).append(' ');
            seen.append(x.write('A')).append(' ').append(x.fault()).append(' ').append(x.define(7)).append(' ');
            seen.append(Check.listingOf(x, 7)).append(' ').append(x.wipe());
        }

        private static void equations(StreamJudge x, StringBuilder seen) {
            for (int a = 0; a < 8; a++) {
                seen.append(Check.listingOf(x, a)).append(' ');
            }
        }

        private static void values(StreamJudge x, StringBuilder seen) {
            for (int a = 0; a < 8; a++) {
                for (int what = 0; what <= 5; what++) {
                    seen.append(x.stream(a, what)).append(' ');
                }
                seen.append(Check.valuesOf(x, a, 20)).append(' ').append(x.value(a, 399)).append(' ');
                seen.append(x.needs(a, 9, 0)).append(' ');
            }
        }

        private static void history(StreamJudge x, StringBuilder seen) {
            for (int k = 0; k < 10; k++) {
                seen.append(x.undo()).append(' ').append(x.told(0)).append(' ').append(x.told(2)).append(' ');
                for (int a = 0; a < 4; a++) {
                    seen.append(x.stream(a, 0)).append(' ').append(x.listing(a, 1)).append(' ');
                }
            }
        }

        private static void images(StreamJudge x, StringBuilder seen) {
            for (int i = 0; i < 2; i++) {
                for (int a = 0; a < 8; a++) {
                    seen.append(x.changed(a, i)).append(' ');
                }
                int kept = x.back(i);
                seen.append(kept).append(' ').append(x.told(0)).append(' ');
                for (int a = 0; a < 4 && kept >= 0; a++) {
                    seen.append(Check.listingOf(x, a)).append(' ');
                }
            }
        }
    }
}
