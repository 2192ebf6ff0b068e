import java.util.Random;

/** Texts drawn by the grammar, and such with something wrong in them. */
final class Texts {
    private static final String[] NAMES = {"age", "size", "value", "week", "fee", "own"};
    private static final String[] BITS = {"(", ")", ";", "+", "-", "*", "<", "=", "not", "and",
        "or", "age", "own", "serves", "adds", "gains", "7", "12345", "1234", "agee", "a", "Z", "#",
        " ", "\n", "\t", "00", "(((((", "not not not", "- -", "\u00e9", "\u0000"};
    private final Random random;

    Texts(Random random) {
        this.random = random;
    }

    String good(int depth) {
        return gap() + "serves" + sep() + either(depth) + gap() + ";" + gap() + "adds" + sep()
                + either(depth) + gap() + ";" + gap() + "gains" + sep() + either(depth) + gap()
                + ";" + gap();
    }

    String bad(int depth) {
        StringBuilder text = new StringBuilder(good(depth));
        int changes = 1 + random.nextInt(2);
        for (int i = 0; i < changes; i++) {
            int at = random.nextInt(text.length() + 1);
            switch (random.nextInt(4)) {
                case 0 -> text.insert(at, BITS[random.nextInt(BITS.length)]);
                case 1 -> text.setLength(at);
                case 2 -> text.delete(at, Math.min(text.length(), at + 1 + random.nextInt(4)));
                default -> text.insert(at, " " + BITS[random.nextInt(BITS.length)] + " ");
            }
        }
        return text.toString();
    }

    private String gap() {
        return switch (random.nextInt(6)) {
            case 0 -> " ";
            case 1 -> "\n ";
            default -> "";
        };
    }

    private String sep() {
        return random.nextInt(5) == 0 ? "\n" : " ";
    }

    private String either(int depth) {
        String text = both(depth);
        while (random.nextInt(6) == 0) {
            text += sep() + "or" + sep() + both(depth);
        }
        return text;
    }

    private String both(int depth) {
        String text = not(depth);
        while (random.nextInt(6) == 0) {
            text += sep() + "and" + sep() + not(depth);
        }
        return text;
    }

    private String not(int depth) {
        if (depth > 0 && random.nextInt(6) == 0) {
            return "not" + sep() + not(depth - 1);
        }
        String text = sum(depth);
        if (random.nextInt(3) == 0) {
            text += gap() + (random.nextInt(4) == 0 ? "=" : "<") + gap() + sum(depth);
        }
        return text;
    }

    private String sum(int depth) {
        String text = term(depth);
        while (random.nextInt(4) == 0) {
            text += gap() + (random.nextBoolean() ? "+" : "-") + gap() + term(depth);
        }
        return text;
    }

    private String term(int depth) {
        String text = one(depth);
        while (random.nextInt(5) == 0) {
            text += gap() + "*" + gap() + one(depth);
        }
        return text;
    }

    private String one(int depth) {
        int sort = random.nextInt(depth > 0 ? 9 : 7);
        if (sort < 4) {
            return NAMES[random.nextInt(NAMES.length)];
        }
        if (sort < 7) {
            int[] tops = {3, 10, 60, 100, 1000, 10000};
            return "" + random.nextInt(tops[random.nextInt(tops.length)]);
        }
        return sort == 7 ? "-" + gap() + one(depth - 1)
                : "(" + gap() + either(depth - 1) + gap() + ")";
    }
}
