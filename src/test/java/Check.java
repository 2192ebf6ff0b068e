import java.util.function.Consumer;
import java.util.function.Supplier;
import java.util.function.ToLongFunction;

/** Counts answers that are not as due, and ends a test with exit code 1 if there was one. */
final class Check {
    private static int wrong;
    private static int asked;
    private static String words = "";

    private Check() {
    }

    /** A sentence of the document, with a test of its own; one that throws is wrong, too. */
    static void sentence(String said, Runnable test) {
        words = "\"" + said + "\": ";
        int before = asked;
        try {
            test.run();
        } catch (RuntimeException | StackOverflowError e) {
            wrong++;
            System.out.println(words + "threw " + e);
        }
        holds("the test asks", asked > before);
        words = "";
    }

    static void due(String call, long got, long want) {
        asked++;
        if (got != want) {
            wrong++;
            System.out.println(words + call + " answered " + got + ", due is " + want);
        }
    }

    static void holds(String what, boolean so) {
        due(what, so ? 1 : 0, 1);
    }

    /** A call on a new object, laid out by the fixture, answers so and changes nothing. */
    static void asks(String call, Consumer<CostsAge> fixture, ToLongFunction<CostsAge> asks,
            long want) {
        Supplier<CostsAge> untouched = () -> {
            CostsAge x = new CostsAge();
            fixture.accept(x);
            return x;
        };
        Supplier<CostsAge> touched = () -> {
            CostsAge x = untouched.get();
            asks.applyAsLong(x);
            return x;
        };
        due(call, asks.applyAsLong(untouched.get()), want);
        String before = Look.at(untouched);
        String after = Look.at(touched);
        if (!before.equals(after)) {
            System.out.println(before + "\n" + after);
        }
        holds(call + " changes nothing", before.equals(after));
    }

    /** A refusal: just as above, the state being as it was behind it. */
    static void refused(String call, Consumer<CostsAge> fixture, ToLongFunction<CostsAge> asks,
            long want) {
        asks(call, fixture, asks, want);
    }

    static void feed(CostsAge x, String text) {
        for (int i = 0; i < text.length(); i++) {
            x.feed(text.charAt(i));
        }
    }

    /** What text() answers for a text that is fed whole. */
    static int text(CostsAge x, String text) {
        feed(x, text);
        return x.text();
    }

    static void end() {
        System.out.println(asked + " answers, " + wrong + " not as due");
        System.exit(wrong == 0 && asked > 0 ? 0 : 1);
    }
}
