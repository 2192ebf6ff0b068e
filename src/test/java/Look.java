/** All that can be asked of an object, as one text; what is asked last may change it. */
final class Look {
    private Look() {
    }

    static String at(CostsAge x) {
        StringBuilder seen = new StringBuilder();
        for (int what = 0; what <= 9; what++) {
            seen.append(x.count(what)).append(' ');
        }
        for (int of = 0; of < 7; of++) {
            seen.append("| ");
            for (int what = 0; what <= 10; what++) {
                seen.append(x.told(of, what)).append(' ');
            }
        }
        lookAtPrices(x, seen);
        lookAtSheets(x, seen);
        // The tape is seen by the fault that it has, THE IMAGE by what it brings back.
        seen.append("| tape ").append(x.text()).append(' ').append(x.count(7));
        seen.append("| image ").append(x.back());
        for (int what = 3; what <= 9; what++) {
            seen.append(' ').append(x.count(what));
        }
        for (int of = 0; of < 7; of++) {
            seen.append(' ').append(x.told(of, 1)).append(' ').append(x.told(of, 3));
            seen.append(' ').append(x.told(of, 9)).append(' ').append(x.told(of, 10));
        }
        return seen.toString();
    }

    private static void lookAtPrices(CostsAge x, StringBuilder seen) {
        seen.append("| prices ").append(x.all(0)).append(' ').append(x.all(1));
        seen.append(' ').append(x.eachOne()).append(' ').append(x.year());
        seen.append(' ').append(x.drawn(77)).append(' ').append(x.mean(0));
        for (int of = 0; of < 7; of++) {
            seen.append(' ').append(x.heap(of)).append(' ').append(x.rest(of));
            seen.append(' ').append(x.gain(of, 0)).append(' ').append(x.when(of, 0));
        }
    }

    private static void lookAtSheets(CostsAge x, StringBuilder seen) {
        for (int s = 0; s < 4; s++) {
            seen.append("| sheet ").append(x.lies(s)).append(' ');
            seen.append(x.judge(s, 0)).append(' ').append(x.judge(s, 1)).append(' ');
            int size = 0;
            while (size < 40 && x.copy(s, 0, s, 0, size + 1) == size + 1) {
                size++;
            }
            seen.append(size).append(' ');
            for (int sort = 0; sort < 3; sort++) {
                seen.append(x.things(s, sort, 0, 0)).append(' ');
            }
        }
    }
}
