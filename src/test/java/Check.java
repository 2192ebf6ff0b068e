import java.util.function.Consumer;
import java.util.function.ToLongFunction;

/** Counts answers that are not as due, and ends a test with exit code 1 if there was one. */
final class Check {
    private static int wrong;
    private static int asked;

    private Check() {
    }

    static void due(String call, long got, long want) {
        asked++;
        if (got != want) {
            wrong++;
            System.out.println(call + " answered " + got + ", due is " + want);
        }
    }

    static void holds(String what, boolean so) {
        due(what, so ? 1 : 0, 1);
    }

    /** A call on a new object, laid out by the fixture, is refused so and changes nothing. */
    static void refused(String call, Consumer<CostsAge> fixture, ToLongFunction<CostsAge> asks,
            long want) {
        CostsAge untouched = new CostsAge();
        fixture.accept(untouched);
        CostsAge touched = new CostsAge();
        fixture.accept(touched);
        due(call, asks.applyAsLong(touched), want);
        String before = Look.at(untouched);
        String after = Look.at(touched);
        if (!before.equals(after)) {
            System.out.println(before + "\n" + after);
        }
        holds(call + " changes nothing", before.equals(after));
    }

    static void feed(CostsAge x, String text) {
        for (int i = 0; i < text.length(); i++) {
            x.feed(text.charAt(i));
        }
    }

    /** What text() answers for a text that is fed whole. */
    static int text(CostsAge x, String text) {
        feed(x, text);
        return x.text();
    }

    static void end() {
        System.out.println(asked + " answers, " + wrong + " not as due");
        System.exit(wrong == 0 && asked > 0 ? 0 : 1);
    }
}
