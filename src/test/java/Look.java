import java.util.function.Supplier;

/**
 * All that can be asked of an object, as one text. What tells most of it changes the object, so
 * each part looks at a new one, that stands as the others do.
 */
final class Look {
    private static final int SIZES = 41;

    private Look() {
    }

    static String at(Supplier<CostsAge> made) {
        StringBuilder seen = new StringBuilder();
        lookAtNumbers(made.get(), seen);
        lookAtPrices(made.get(), seen);
        lookAtAll(made.get(), seen);
        lookAtTexts(made.get(), seen);
        lookAtTape(made.get(), seen);
        lookAtImage(made.get(), seen);
        for (int s = 0; s < 4; s++) {
            lookAtSheet(made, s, seen);
        }
        return seen.toString();
    }

    private static void lookAtNumbers(CostsAge x, StringBuilder seen) {
        for (int what = 0; what <= 9; what++) {
            seen.append(x.count(what)).append(' ');
        }
        for (int of = 0; of < 7; of++) {
            seen.append("| ");
            for (int what = 0; what <= 10; what++) {
                seen.append(x.told(of, what)).append(' ');
            }
        }
    }

    private static void lookAtPrices(CostsAge x, StringBuilder seen) {
        seen.append("| prices");
        for (int b = 0; b < 7; b++) {
            for (int t = 0; t < 7; t++) {
                seen.append(' ').append(x.cost(b, 1 << t, 0));
                seen.append(' ').append(x.cost(b, 1 << t | 1, 57));
            }
        }
    }

    private static void lookAtAll(CostsAge x, StringBuilder seen) {
        seen.append("| all ").append(x.all(0)).append(' ').append(x.all(1));
        seen.append(' ').append(x.eachOne()).append(' ').append(x.year());
        seen.append(' ').append(x.drawn(77)).append(' ').append(x.mean(0));
        for (int of = 0; of < 7; of++) {
            seen.append(' ').append(x.heap(of)).append(' ').append(x.rest(of));
            seen.append(' ').append(x.gain(of, 0)).append(' ').append(x.when(of, 0));
        }
    }

    private static void lookAtTexts(CostsAge x, StringBuilder seen) {
        for (int text = 0; text < 6; text++) {
            seen.append("| text ").append(x.force(text));
            for (int of = 0; of < 7; of++) {
                seen.append(' ').append(x.cost(0, 1 << of, 0)).append(' ').append(x.gain(of, 0));
            }
        }
    }

    /** A tape that wants just a ; is a TEXT then, and is seen by what it is worth. */
    private static void lookAtTape(CostsAge x, StringBuilder seen) {
        seen.append("| tape ").append(x.feed(';')).append(' ').append(x.text());
        seen.append(' ').append(x.force(x.count(7) - 1));
        for (int of = 0; of < 7; of++) {
            seen.append(' ').append(x.cost(0, 1 << of, 0)).append(' ').append(x.gain(of, 0));
        }
    }

    private static void lookAtImage(CostsAge x, StringBuilder seen) {
        seen.append("| image ").append(x.back()).append(' ');
        lookAtNumbers(x, seen);
    }

    private static void lookAtSheet(Supplier<CostsAge> made, int s, StringBuilder seen) {
        CostsAge x = made.get();
        seen.append("| sheet ").append(x.lies(s)).append(' ');
        seen.append(x.judge(s, 0)).append(' ').append(x.judge(s, 1)).append(' ');
        int sort = 0;
        while (sort < 3 && x.things(s, sort, 0, 0) != 0) {
            sort++;
        }
        int size = 0;
        while (size < SIZES && x.copy(s, 0, s, 0, size + 1) == size + 1) {
            size++;
        }
        seen.append("of sort ").append(sort).append(", ").append(size).append(':');
        for (int i = 0; i < size && sort < 3; i++) {
            seen.append(' ').append(cell(made.get(), s, sort, i));
        }
    }

    /** What a cell holds, if it could be YEARS; else -1. */
    private static int cell(CostsAge x, int s, int sort, int i) {
        x.buyer(0, 0, 0);
        int other = (s + 1) % 4;
        x.sheet(other, sort, x.count(0));
        x.copy(s, i, other, 0, 1);
        for (int v = 0; v < 100; v++) {
            x.set(0, 0, v);
            if ((x.lies(other) & 1) == 0) {
                return v;
            }
        }
        return -1;
    }
}
