import java.util.ArrayList;
import java.util.Arrays;
import java.util.List;

/** An object and the oracle, asked the same; the first answers that differ are told with the run. */
final class Both {
    private final CostsAge x = new CostsAge();
    private final Oracle o = new Oracle();
    private final List<String> log = new ArrayList<>();
    boolean differ;
    int calls;

    long ask(String name, int... a) {
        calls++;
        long got = ofObject(name, a);
        long want = ofOracle(name, a);
        String call = name + Arrays.toString(a).replace('[', '(').replace(']', ')');
        log.add(call + " " + got);
        if (got != want && !differ) {
            differ = true;
            log.forEach(System.out::println);
        }
        Check.due(call, got, want);
        return want;
    }

    void feed(String text) {
        for (int i = 0; i < text.length(); i++) {
            ask("feed", text.charAt(i));
        }
    }

    private long ofObject(String name, int[] a) {
        return switch (name) {
            case "buyer" -> x.buyer(a[0], a[1], a[2]);
            case "thing" -> x.thing(a[0], a[1]);
            case "set" -> x.set(a[0], a[1], a[2]);
            case "told" -> x.told(a[0], a[1]);
            case "feed" -> x.feed(a[0]);
            case "text" -> x.text();
            case "force" -> x.force(a[0]);
            case "years" -> x.years(a[0], a[1]);
            case "cost" -> x.cost(a[0], a[1], a[2]);
            case "best" -> x.best(a[0], a[1], a[2]);
            case "when" -> x.when(a[0], a[1]);
            case "buy" -> x.buy(a[0], a[1]);
            case "pass" -> x.pass();
            case "all" -> x.all(a[0]);
            case "heap" -> x.heap(a[0]);
            case "eachOne" -> x.eachOne();
            case "gain" -> x.gain(a[0], a[1]);
            case "year" -> x.year();
            case "rest" -> x.rest(a[0]);
            case "lies" -> x.lies(a[0]);
            case "judge" -> x.judge(a[0], a[1]);
            case "drawn" -> x.drawn(a[0]);
            case "mean" -> x.mean(a[0]);
            case "image" -> x.image();
            case "back" -> x.back();
            case "count" -> x.count(a[0]);
            case "sheet" -> x.sheet(a[0], a[1], a[2]);
            case "cell" -> x.cell(a[0], a[1], a[2]);
            case "copy" -> x.copy(a[0], a[1], a[2], a[3], a[4]);
            case "things" -> x.things(a[0], a[1], a[2], a[3]);
            case "taken" -> x.taken(a[0], a[1]);
            default -> throw new IllegalArgumentException(name);
        };
    }

    private long ofOracle(String name, int[] a) {
        return switch (name) {
            case "buyer" -> o.buyer(a[0], a[1], a[2]);
            case "thing" -> o.thing(a[0], a[1]);
            case "set" -> o.set(a[0], a[1], a[2]);
            case "told" -> o.told(a[0], a[1]);
            case "feed" -> o.feed(a[0]);
            case "text" -> o.text();
            case "force" -> o.force(a[0]);
            case "years" -> o.years(a[0], a[1]);
            case "cost" -> o.cost(a[0], a[1], a[2]);
            case "best" -> o.best(a[0], a[1], a[2]);
            case "when" -> o.when(a[0], a[1]);
            case "buy" -> o.buy(a[0], a[1]);
            case "pass" -> o.pass();
            case "all" -> o.all(a[0]);
            case "heap" -> o.heap(a[0]);
            case "eachOne" -> o.eachOne();
            case "gain" -> o.gain(a[0], a[1]);
            case "year" -> o.year();
            case "rest" -> o.rest(a[0]);
            case "lies" -> o.lies(a[0]);
            case "judge" -> o.judge(a[0], a[1]);
            case "drawn" -> o.drawn(a[0]);
            case "mean" -> o.mean(a[0]);
            case "image" -> o.image();
            case "back" -> o.back();
            case "count" -> o.count(a[0]);
            case "sheet" -> o.sheet(a[0], a[1], a[2]);
            case "cell" -> o.cell(a[0], a[1], a[2]);
            case "copy" -> o.copy(a[0], a[1], a[2], a[3], a[4]);
            case "things" -> o.things(a[0], a[1], a[2], a[3]);
            case "taken" -> o.taken(a[0], a[1]);
            default -> throw new IllegalArgumentException(name);
        };
    }
}
