import java.util.Random;

/** Runs of drawn calls, most of them with fit numbers, against the oracle. */
public final class RandomRunsTest {
    private static final int RUNS = 1500, CALLS = 512;
    private static final String[] ASKS = {"told", "years", "cost", "cost", "best", "best", "when",
        "all", "all", "heap", "heap", "eachOne", "eachOne", "gain", "gain", "year", "rest", "rest",
        "lies", "judge", "judge", "drawn", "mean", "count", "taken"};
    private static final String[] DOES = {"buyer", "thing", "set", "set", "set", "set", "feed",
        "text", "force", "force", "buy", "pass", "pass", "image", "back", "sheet", "cell", "cell",
        "copy", "things"};

    private final Random random;
    private final Both both = new Both();
    private final Texts texts;

    private RandomRunsTest(long seed) {
        random = new Random(seed);
        texts = new Texts(random);
    }

    public static void main(String[] args) {
        for (int run = 0; run < RUNS; run++) {
            RandomRunsTest one = new RandomRunsTest(run);
            one.run();
            if (one.both.differ) {
                System.out.println("run " + run);
                break;
            }
        }
        Check.end();
    }

    private void run() {
        int first = random.nextInt(8);
        for (int i = 0; i < first; i++) {
            ask("buyer");
        }
        first = random.nextInt(8);
        for (int i = 0; i < first; i++) {
            ask("thing");
        }
        while (both.calls < CALLS && !both.differ) {
            int sort = random.nextInt(40);
            if (sort == 0 && both.calls < CALLS - 200) {
                feedText();
            } else if (sort == 1 && both.calls < CALLS - 60) {
                int weeks = random.nextInt(60);
                for (int i = 0; i < weeks; i++) {
                    both.ask("pass");
                }
            } else if (sort == 2) {
                tellAges();
            } else if (sort == 3) {
                tellList();
            } else if (sort < 16) {
                ask(DOES[random.nextInt(DOES.length)]);
            } else {
                ask(ASKS[random.nextInt(ASKS.length)]);
            }
        }
    }

    private void feedText() {
        String text = random.nextInt(4) == 0 ? texts.bad(2) : texts.good(random.nextInt(3));
        both.feed(text);
        long number = both.ask("text");
        if (number > 0 && random.nextInt(3) > 0) {
            both.ask("force", (int) number);
        }
    }

    private void tellAges() {
        int many = (int) both.ask("count", 0);
        int sheet = random.nextInt(4);
        both.ask("sheet", sheet, random.nextInt(3), many);
        for (int b = 0; b < many; b++) {
            both.ask("cell", sheet, b, (int) both.ask("told", b, 1) + random.nextInt(2));
        }
        both.ask("lies", sheet);
    }

    private void tellList() {
        int sheet = random.nextInt(4);
        int rows = random.nextInt(6);
        both.ask("sheet", sheet, random.nextInt(3), 2 * rows);
        for (int i = 0; i < rows; i++) {
            both.ask("cell", sheet, 2 * i, random.nextInt(7));
            both.ask("cell", sheet, 2 * i + 1, random.nextInt(7));
        }
        both.ask("judge", sheet, 0);
        both.ask("judge", sheet, 1);
    }

    /** A number that fits mostly, sometimes one that hardly does, seldom any. */
    private int fit(int last) {
        int sort = random.nextInt(60);
        if (sort == 0) {
            return random.nextInt();
        }
        if (sort == 1) {
            return last + 1;
        }
        if (sort == 2) {
            return -1;
        }
        if (sort == 3) {
            return last;
        }
        return random.nextInt(last + 1);
    }

    private int aSet() {
        return random.nextInt(3) == 0 ? fit(127) : 1 << random.nextInt(7)
                | (random.nextBoolean() ? 1 << random.nextInt(7) : 0);
    }

    private int weeksAhead() {
        return random.nextBoolean() ? 0 : fit(103);
    }

    private void ask(String name) {
        switch (name) {
            case "buyer" -> both.ask(name, fit(5), fit(5199), fit(random.nextBoolean() ? 99 : 999));
            case "thing" -> both.ask(name, random.nextBoolean() ? fit(9) : fit(4), fit(999));
            case "set" -> askSet();
            case "told" -> both.ask(name, fit(6), fit(10));
            case "feed" -> both.ask(name, fit(255));
            case "force" -> both.ask(name, fit(5));
            case "years" -> both.ask(name, fit(6), fit(103));
            case "cost" -> both.ask(name, fit(6), aSet(), weeksAhead());
            case "best" -> both.ask(name, aSet(), weeksAhead(), fit(1));
            case "when", "gain" -> both.ask(name, fit(6), fit(1));
            case "buy" -> both.ask(name, fit(6), aSet());
            case "all", "mean" -> both.ask(name, fit(1));
            case "heap", "rest" -> both.ask(name, fit(6));
            case "lies" -> both.ask(name, fit(3));
            case "judge" -> both.ask(name, fit(3), fit(1));
            case "drawn" -> both.ask(name, random.nextInt());
            case "count" -> both.ask(name, fit(9));
            case "sheet" -> both.ask(name, fit(3), fit(3) - 1, fit(random.nextBoolean() ? 12 : 40));
            case "cell" -> both.ask(name, fit(3), fit(12), random.nextBoolean() ? fit(9) : fit(999));
            case "copy" -> both.ask(name, fit(3), fit(12), fit(3), fit(12), fit(8));
            case "things" -> both.ask(name, fit(3), fit(2), fit(9), fit(7));
            case "taken" -> both.ask(name, fit(6), fit(5));
            default -> both.ask(name);
        }
    }

    private void askSet() {
        switch (random.nextInt(5)) {
            case 0 -> both.ask("set", 0, fit(6), fit(99));
            case 1 -> both.ask("set", 1, fit(6), random.nextBoolean() ? fit(99) : fit(20));
            case 2 -> both.ask("set", 2, fit(6), fit(51));
            case 3 -> both.ask("set", 3, fit(6), fit(7) - 1);
            default -> both.ask("set", fit(4), fit(6), fit(63));
        }
    }
}
