/** Promises 21 to 27: lies, judge, drawn, mean, image, back, count. */
public final class BookTest {
    private BookTest() {
    }

    public static void main(String[] args) {
        lies();
        liesAreRefused();
        judged();
        freeAndNow();
        judgedIsRefused();
        drawn();
        means();
        images();
        whatCameSinceStays();
        counts();
        Check.end();
    }

    private static void row(CostsAge x, int sheet, int sort, int... cells) {
        x.sheet(sheet, sort, cells.length);
        for (int i = 0; i < cells.length; i++) {
            x.cell(sheet, i, cells[i]);
        }
    }

    private static void shop(CostsAge x) {
        x.buyer(0, 1030, 40);
        x.buyer(1, 509, 62);
        x.buyer(2, 2070, 35);
        x.thing(3, 100);
        x.thing(8, 20);
        x.thing(2, 5);
        x.set(3, 0, 1);
    }

    private static void busyShop(CostsAge x) {
        shop(x);
        x.buy(0, 4);
        x.image();
        x.pass();
        x.set(1, 1, 9);
        Check.feed(x, "serves 1 1");
        row(x, 0, 0, 30, 9, 7);
        row(x, 1, 1, 0, 0, 1, 1);
    }

    private static void lies() {
        CostsAge x = new CostsAge();
        x.sheet(0, 2, 0);
        Check.due("nobody, an empty sheet", x.lies(0), 0);
        shop(x);
        row(x, 1, 0, 30, 9, 70);
        Check.due("no lies", x.lies(1), 0);
        row(x, 2, 1, 30, 8, 70);
        Check.due("the second lies", x.lies(2), 2);
        row(x, 3, 2, 0, -9, 170);
        Check.due("all lie", x.lies(3), 7);
        row(x, 3, 2, 30 + 256, 9, 70 + 65536);
        Check.due("ints are not cut", x.lies(3), 5);
        row(x, 3, 0, 30 + 256, 9, 70 + 65536);
        Check.due("bytes are cut", x.lies(3), 0);
        for (int i = 0; i < 5; i++) {
            x.pass();
        }
        Check.due("a birthday passed", x.lies(1), 2);
    }

    private static void liesAreRefused() {
        int[][] wrong = {{-1, -2}, {4, -2}, {2, -11}, {3, -11}, {1, -2}, {Integer.MAX_VALUE, -2}};
        for (int[] w : wrong) {
            Check.refused("lies(" + w[0] + ")", BookTest::busyShop, x -> x.lies(w[0]), w[1]);
        }
        CostsAge x = new CostsAge();
        shop(x);
        row(x, 0, 0, 30, 9);
        Check.due("too small", x.lies(0), -2);
        row(x, 0, 0, 30, 9, 70, 0);
        Check.due("too large", x.lies(0), -2);
    }

    private static void judge(String what, CostsAge x, int first, int pays, int... list) {
        for (int sort = 0; sort < 3; sort++) {
            row(x, sort, sort, list);
            Check.due(what + ": the first", x.judge(sort, 0), first);
            Check.due(what + ": what they pay", x.judge(sort, 1), pays);
        }
        Check.due(what + ": nothing is truly bought", x.count(2), 3);
        Check.due(what + ": TILL", x.count(5), 0);
    }

    private static void judged() {
        CostsAge x = new CostsAge();
        shop(x);
        judge("an empty list", x, -1, 0);
        judge("a fit list", x, -1, 30 + 9 + 65, 0, 0, 1, 2, 2, 1);
        judge("one is bought twice", x, 1, 30, 0, 0, 1, 0, 2, 1);
        judge("not served", x, 1, 30, 0, 0, 1, 1, 2, 2);
        judge("no such BUYER", x, 2, 39, 0, 0, 1, 2, 3, 1);
        judge("a BUYER below 0", x, 0, 0, -1, 0, 1, 2);
        judge("no such THING", x, 1, 9, 1, 2, 0, 3);
        judge("a THING below 0", x, 1, 9, 1, 2, 0, -1);
        judge("a THING of 32 more", x, 0, 0, 0, 32);
        judge("a thing of those that are no things", x, 1, 9, 1, 2, 0, 34, 0, 1);
        Check.text(x, "serves 1; adds value; gains 0;");
        x.force(1);
        judge("with adds", x, -1, 130 + 14, 0, 0, 1, 2);
        x.buy(0, 1);
        row(x, 0, 2, 1, 1, 0, 0);
        Check.due("BOUGHT already", x.judge(0, 0), 1);
        Check.due("BOUGHT already", x.judge(0, 1), 29);
    }

    /** 0 is paid like another sum, and nothing is of the next WEEK. */
    private static void freeAndNow() {
        CostsAge x = new CostsAge();
        x.buyer(0, 2600, 0);
        x.thing(0, 0);
        x.thing(0, 0);
        row(x, 0, 0, 0, 0, 0, 1);
        Check.due("0 is paid: judge(0, 0)", x.judge(0, 0), -1);
        Check.due("0 is paid: judge(0, 1)", x.judge(0, 1), 0);
        CostsAge y = new CostsAge();
        y.buyer(0, 130, 0);
        y.thing(0, 0);
        row(y, 0, 0, 0, 0);
        Check.due("now: judge(0, 1)", y.judge(0, 1), 30);
        Check.due("now: drawn(3)", y.drawn(3), 30);
    }

    private static void judgedIsRefused() {
        int[][] wrong = {{-1, 0, -2}, {4, 0, -2}, {0, -1, -2}, {0, 2, -2}, {2, 2, -2}, {2, 0, -11},
            {3, 1, -11}, {0, 0, -2}, {0, 1, -2}, {Integer.MIN_VALUE, 0, -2}};
        for (int[] w : wrong) {
            Check.refused("judge(" + w[0] + ", " + w[1] + ")", BookTest::busyShop,
                    x -> x.judge(w[0], w[1]), w[2]);
        }
    }

    private static void drawn() {
        Check.refused("nobody is there: drawn(1)", x -> x.thing(1, 1), x -> x.drawn(1), -1);
        CostsAge x = new CostsAge();
        x.buyer(0, 2601, 990);
        Check.due("of nothing", x.drawn(7), 0);
        x.thing(1, 1);
        Check.due("one BUYER, no ASKS", x.drawn(7), 1);
        x.buyer(0, 2610, 0);
        x.buyer(0, 2650, 0);
        x.thing(2, 2);
        x.thing(8, 3);
        x.thing(4, 4);
        int[] years = {1, 10, 50};
        for (int seed : new int[] {0, 1, -1, 5, 12345, Integer.MAX_VALUE, Integer.MIN_VALUE}) {
            int z = seed;
            int due = 0;
            for (int t = 0; t < 4; t++) {
                z = z * 1103515245 + 12345;
                int who = (z >>> 10) % 3;
                due += t == 2 && who == 0 ? 0 : years[who];
            }
            Check.due("drawn(" + seed + ")", x.drawn(seed), due);
        }
        x.buy(1, 2);
        x.buy(1, 4);
        x.buy(1, 8);
        // 12345 >>> 10 is 12, which leaves 0 by 3.
        Check.due("one is left: drawn(0)", x.drawn(0), 1);
        x.thing(2, 2);
        int second = ((12345 * 1103515245 + 12345) >>> 10) % 3;
        Check.due("BOUGHT ones draw nothing: drawn(0)", x.drawn(0), 1 + years[second]);
    }

    private static void means() {
        CostsAge x = new CostsAge();
        Check.due("nobody: mean(0)", x.mean(0), CostsAge.NO);
        Check.due("nobody: mean(1)", x.mean(1), CostsAge.NO);
        int[] years = {0, 99, 1, 4, 96, 99, 51};
        int[][] due = {{0, 1}, {99, 2}, {100, 3}, {26, 1}, {40, 1}, {299, 6}, {50, 1}};
        for (int b = 0; b < 7; b++) {
            x.buyer(0, 2600 + years[b], 0);
            Check.due((b + 1) + " buyers: mean(0)", x.mean(0), due[b][0]);
            Check.due((b + 1) + " buyers: mean(1)", x.mean(1), due[b][1]);
        }
        CostsAge zero = new CostsAge();
        zero.buyer(0, 0, 0);
        zero.buyer(0, 0, 0);
        Check.due("0 in lowest terms: mean(0)", zero.mean(0), 0);
        Check.due("0 in lowest terms: mean(1)", zero.mean(1), 1);
        CostsAge six = new CostsAge();
        for (int b = 0; b < 6; b++) {
            six.buyer(0, b < 1 ? 4 : 0, 0);
        }
        Check.due("4 of 6: mean(0)", six.mean(0), 2);
        Check.due("4 of 6: mean(1)", six.mean(1), 3);
        for (int part : new int[] {-1, 2, Integer.MIN_VALUE}) {
            Check.refused("mean(" + part + ")", BookTest::busyShop, y -> y.mean(part), CostsAge.NO);
        }
    }

    private static void images() {
        Check.refused("no image: back()", x -> {
            shop(x);
            x.pass();
        }, CostsAge::back, -3);
        CostsAge x = new CostsAge();
        shop(x);
        Check.text(x, "serves 1; adds 1; gains 0;");
        x.force(1);
        x.set(4, 0, 20);
        x.buy(0, 2);
        for (int i = 0; i < 53; i++) {
            x.pass();
        }
        Check.due("image()", x.image(), 1);
        String before = mostOf(x);
        x.force(0);
        x.set(4, 0, 5);
        x.set(0, 0, 1);
        x.set(1, 1, 77);
        x.set(3, 0, 2);
        x.set(3, 1, 0);
        x.buy(0, 1);
        for (int i = 0; i < 60; i++) {
            x.pass();
        }
        Check.holds("much is otherwise", !before.equals(mostOf(x)));
        Check.due("back()", x.back(), 1);
        Check.holds("all that it keeps is as in THE IMAGE", before.equals(mostOf(x)));
        x.pass();
        x.set(2, 0, 44);
        Check.text(x, "serves 1; adds 2; gains 0;");
        x.force(2);
        Check.due("back() again", x.back(), 1);
        Check.due("THE RULE", x.count(9), 1);
        Check.due("BORN stays as it is", x.told(0, 2), 44);
        Check.due("TEXTS stay", x.count(7), 3);
        x.pass();
        x.pass();
        Check.due("another image()", x.image(), 3);
        x.pass();
        Check.due("back() to the newer one", x.back(), 3);
    }

    /** All that an image keeps. */
    private static String mostOf(CostsAge x) {
        StringBuilder seen = new StringBuilder();
        for (int of = 0; of < 3; of++) {
            seen.append(x.told(of, 1)).append(' ').append(x.told(of, 3)).append(' ');
            seen.append(x.told(of, 9)).append(' ').append(x.told(of, 10)).append(' ');
        }
        for (int what : new int[] {2, 3, 4, 5, 6, 9}) {
            seen.append(x.count(what)).append(' ');
        }
        return seen.toString();
    }

    private static void whatCameSinceStays() {
        CostsAge x = new CostsAge();
        x.buyer(0, 1030, 40);
        x.thing(3, 100);
        x.image();
        x.buyer(0, 140, 50);
        x.thing(4, 50);
        x.thing(5, 60);
        x.set(3, 0, 1);
        x.set(3, 1, 0);
        x.set(1, 1, 66);
        x.pass();
        x.buy(0, 3);
        Check.due("TILL", x.count(5), 30);
        Check.due("back()", x.back(), 0);
        Check.due("BUYERS", x.count(0), 2);
        Check.due("THINGS", x.count(1), 3);
        Check.due("YEARS of one that came since", x.told(1, 1), 41);
        Check.due("its FEE", x.told(1, 3), 66);
        Check.due("a thing that came since is BOUGHT", x.told(1, 10), 1);
        Check.due("and OWN", x.told(1, 9), 0);
        Check.due("an older one isn't BOUGHT", x.told(0, 10), 0);
        Check.due("nor OWN", x.told(0, 9), -1);
        Check.due("not BOUGHT", x.count(2), 2);
        Check.due("TILL", x.count(5), 0);
    }

    private static void counts() {
        CostsAge x = new CostsAge();
        busyShop(x);
        int[] due = {3, 3, 2, 1, 0, 30, 9, 1, 10, 0};
        for (int what = 0; what < due.length; what++) {
            Check.due("count(" + what + ")", x.count(what), due[what]);
        }
        for (int what : new int[] {-1, 10, Integer.MIN_VALUE, Integer.MAX_VALUE}) {
            Check.refused("count(" + what + ")", BookTest::busyShop, y -> y.count(what), -2);
        }
    }
}
