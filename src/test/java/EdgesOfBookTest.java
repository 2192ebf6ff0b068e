/** The edges that the document names of LIES, lists, draws, means, IMAGES: promises 21 to 27. */
public final class EdgesOfBookTest {
    private static final int MIN = Integer.MIN_VALUE, MAX = Integer.MAX_VALUE;

    private EdgesOfBookTest() {
    }

    public static void main(String[] args) {
        lies();
        judged();
        drawn();
        mean();
        image();
        count();
        Check.end();
    }

    private static void lies() {
        Check.sentence("LIES: those (bits) of whom it is otherwise", EdgesOfBookTest::bits);
        Check.sentence("lies: BAD: SHEET", EdgesOfBookTest::noSuchSheet);
        Check.sentence("lies: -11", EdgesOfBookTest::missingChurchBook);
        Check.sentence("lies: BAD: its size isn't how many BUYERS there are",
                EdgesOfBookTest::sizeOfTheBook);
    }

    private static void judged() {
        Check.sentence("JUDGED: the first row (from 0) that is none such",
                EdgesOfBookTest::noneSuch);
        Check.sentence("JUDGED: the first row that is BOUGHT already",
                EdgesOfBookTest::boughtAlready);
        Check.sentence("JUDGED: or whom the shop doesn't serve", EdgesOfBookTest::notServed);
        Check.sentence("JUDGED: bought one behind the other now, each alone",
                EdgesOfBookTest::nowEachAlone);
        Check.sentence("JUDGED: NONE", EdgesOfBookTest::noRowIsWrong);
        Check.sentence("JUDGED: what they pay ahead of that (without ASKS)",
                EdgesOfBookTest::payAhead);
        Check.sentence("judge: BAD: SHEET, what; -11; BAD: its size is odd",
                EdgesOfBookTest::judgeIsRefused);
    }

    private static void drawn() {
        Check.sentence("DRAWN: z = z * 1103515245 + 12345 (an int; SEED at first)",
                EdgesOfBookTest::drawsWrap);
        Check.sentence("DRAWN: for each of the THINGS that aren't BOUGHT, by numbers",
                EdgesOfBookTest::drawsForUnbought);
        Check.sentence("DRAWN: modulo how many there are", EdgesOfBookTest::drawsOfSo);
        Check.sentence("DRAWN: of those whom it serves so, now", EdgesOfBookTest::drawsServed);
        Check.sentence("drawn: NONE: nobody is there", EdgesOfBookTest::nobodyIsDrawn);
    }

    private static void mean() {
        Check.sentence("mean: in lowest terms", EdgesOfBookTest::lowestTerms);
        Check.sentence("mean: NO: part; nobody is there", EdgesOfBookTest::meanIsRefused);
    }

    private static void image() {
        Check.sentence("image: AN IMAGE is kept: THE WEEK", EdgesOfBookTest::imageIsKept);
        Check.sentence("AN IMAGE keeps YEARS", () -> kept("YEARS", 1, 0));
        Check.sentence("AN IMAGE keeps FEES", () -> kept("FEES", 3, 1));
        Check.sentence("AN IMAGE keeps OWN", () -> kept("OWN", 9, 3));
        Check.sentence("AN IMAGE keeps BOUGHT", EdgesOfBookTest::keepsBought);
        Check.sentence("AN IMAGE keeps THE WEEK, THE YEAR", EdgesOfBookTest::keepsWeeks);
        Check.sentence("AN IMAGE keeps TILL, CARRY, THE RULE", EdgesOfBookTest::keepsTheRest);
        Check.sentence("AN IMAGE doesn't keep BORN, TEXTS, THE TAPE, SHEETS",
                EdgesOfBookTest::keepsNoMore);
        Check.sentence("BUYERS, THINGS that came since stay", EdgesOfBookTest::theyStay);
        Check.sentence("back: All that it keeps is as in THE IMAGE", EdgesOfBookTest::backAgain);
        Check.sentence("back: STATE: there is none", EdgesOfBookTest::noImage);
    }

    private static void count() {
        Check.sentence("count: How many", EdgesOfBookTest::counts);
        Check.sentence("count: BAD", EdgesOfBookTest::countIsRefused);
    }

    private static void bits() {
        CostsAge x = Shop.grown(7);
        for (int sort = 0; sort < 3; sort++) {
            Shop.row(x, sort, sort, 10, 11, 12, 13, 14, 15, 16);
            Check.due("no lies", x.lies(sort), 0);
            for (int b = 0; b < 7; b++) {
                x.cell(sort, b, 99);
                Check.due("one lies", x.lies(sort), 1 << b);
                x.cell(sort, b, 10 + b);
            }
            Shop.row(x, sort, sort, 11, 10, 0, 14, 13, -15, 99);
            Check.due("all lie", x.lies(sort), 127);
        }
        x.set(0, 0, 11);
        Check.due("by YEARS now", x.lies(2), 126);
        Shop.row(x, 3, 2, 11 + 256, 11, 12, 13, 14, 15, 16 + 65536);
        Check.due("ints are not cut", x.lies(3), 65);
        Shop.row(x, 3, 0, 11 + 256, 11, 12, 13, 14, 15, 16 + 65536);
        Check.due("bytes are cut", x.lies(3), 0);
        CostsAge ends = Shop.of(0, 0, 0, 0, 99, 0);
        Shop.row(ends, 0, 0, 0, 99);
        Check.due("0 and 99", ends.lies(0), 0);
        CostsAge nobody = new CostsAge();
        nobody.sheet(0, 0, 0);
        Check.due("nobody, an empty SHEET", nobody.lies(0), 0);
        Check.asks("lies(0)", Shop::busy, y -> y.lies(0), 8);
    }

    private static void noSuchSheet() {
        for (int sheet : new int[] {MIN, -1, 4, MAX}) {
            Check.refused("lies(" + sheet + ")", Shop::busy, x -> x.lies(sheet), -2);
        }
    }

    private static void missingChurchBook() {
        Check.refused("lies(3)", Shop::busy, x -> x.lies(3), -11);
        Check.due("lies(0) at first", new CostsAge().lies(0), -11);
        CostsAge x = new CostsAge();
        x.sheet(3, 2, 0);
        Check.due("lies(3)", x.lies(3), 0);
        x.sheet(3, -1, 0);
        Check.due("lies(3), missing again", x.lies(3), -11);
    }

    private static void sizeOfTheBook() {
        // There are 4 BUYERS.
        for (int size : new int[] {0, 3, 5, 40}) {
            Check.refused("lies(1), of " + size, x -> {
                Shop.busy(x);
                x.sheet(1, 1, size);
            }, x -> x.lies(1), -2);
        }
        Check.asks("lies(1), of 4", x -> {
            Shop.busy(x);
            x.sheet(1, 1, 4);
        }, x -> x.lies(1), 15);
        CostsAge nobody = new CostsAge();
        nobody.sheet(0, 0, 1);
        Check.due("nobody, a SHEET of 1", nobody.lies(0), -2);
        CostsAge grows = Shop.grown(1);
        grows.sheet(0, 0, 1);
        Check.due("one, a SHEET of 1", grows.lies(0), 1);
        grows.buyer(0, 0, 0);
        Check.due("two, a SHEET of 1", grows.lies(0), -2);
    }

    /** What judge() answers of a list, in each sort. */
    private static void judgedSo(CostsAge x, int first, int pay, int... list) {
        int open = x.count(2);
        int till = x.count(5);
        for (int sort = 0; sort < 3; sort++) {
            Shop.row(x, 3, sort, list);
            Check.due("sort " + sort + ": judge(3, 0)", x.judge(3, 0), first);
            Check.due("sort " + sort + ": judge(3, 1)", x.judge(3, 1), pay);
        }
        Check.due("nothing is truly bought", x.count(2), open);
        Check.due("TILL", x.count(5), till);
    }

    private static void noneSuch() {
        CostsAge x = Shop.grown(3);
        Shop.things(x, 0, 0);
        judgedSo(x, 0, 0, -1, 0);
        judgedSo(x, 0, 0, 3, 0);
        judgedSo(x, 0, 0, 0, -1);
        judgedSo(x, 0, 0, 0, 2);
        judgedSo(x, 0, 0, 0, 32);
        judgedSo(x, 0, 0, 32, 0);
        judgedSo(x, 0, 0, -128, -128);
        judgedSo(x, 1, 10, 0, 0, -1, 1);
        judgedSo(x, 1, 12, 2, 1, 3, 0);
        judgedSo(x, 2, 22, 2, 1, 0, 0, 1, 2);
        judgedSo(x, 1, 10, 0, 0, 0, 2, 0, 1);
        judgedSo(x, 1, 10, 0, 0, 3, 1, 4, 1);
        judgedSo(new CostsAge(), 0, 0, 0, 0);
    }

    private static void boughtAlready() {
        CostsAge x = Shop.grown(3);
        Shop.things(x, 0, 0, 0);
        judgedSo(x, 1, 10, 0, 0, 1, 0);
        judgedSo(x, 2, 21, 0, 0, 1, 1, 2, 0);
        judgedSo(x, 3, 33, 0, 0, 1, 1, 2, 2, 0, 0);
        judgedSo(x, 3, 33, 0, 2, 1, 1, 2, 0, 0, 1);
        judgedSo(x, 1, 10, 0, 1, 0, 1);
        x.buy(0, 2);
        judgedSo(x, 0, 0, 0, 1);
        judgedSo(x, 1, 10, 0, 0, 1, 1, 2, 2);
        judgedSo(x, -1, 23, 1, 0, 2, 2);
        CostsAge seven = Shop.grown(7);
        Shop.things(seven, 0, 0, 0, 0, 0, 0, 0);
        int[] list = new int[40];
        for (int row = 0; row < 20; row++) {
            list[2 * row] = row % 7;
            list[2 * row + 1] = 6 - row % 7;
        }
        judgedSo(seven, 7, 91, list);
    }

    private static void notServed() {
        CostsAge x = Shop.of(0, 2609, 0, 0, 2610, 0);
        Shop.things(x, 7, 8);
        judgedSo(x, 0, 0, 0, 1);
        judgedSo(x, 1, 9, 0, 0, 0, 1);
        judgedSo(x, 1, 10, 1, 1, 2, 0);
        judgedSo(x, -1, 19, 1, 1, 0, 0);
        Shop.rule(x, "0", "0", "0");
        judgedSo(x, 0, 0, 1, 0);
    }

    private static void nowEachAlone() {
        CostsAge x = Shop.of(0, 509, 0, 4, 2626, 0, 4, 2626, 3);
        Shop.things(x, 8, 0, 0);
        Shop.passWeeks(x, 4);
        judgedSo(x, 0, 0, 0, 0);
        judgedSo(x, -1, 27 + 26 + 9, 1, 0, 2, 1, 0, 2);
        x.pass();
        judgedSo(x, -1, 10 + 26, 0, 0, 1, 1);
        Shop.rule(x, "week = 5", "week + size + value", "0");
        judgedSo(x, -1, 10 + 5 + 8 + 10 + 5, 0, 0, 0, 1);
    }

    private static void noRowIsWrong() {
        CostsAge x = Shop.grown(1);
        judgedSo(x, -1, 0);
        x.thing(0, 0);
        judgedSo(x, -1, 0);
        judgedSo(x, -1, 10, 0, 0);
        x.set(0, 0, 0);
        judgedSo(x, -1, 0, 0, 0);
        judgedSo(new CostsAge(), -1, 0);
    }

    private static void payAhead() {
        CostsAge x = Shop.of(0, 2630, 990, 5, 2670, 999);
        Shop.things(x, 1, 2, 3);
        judgedSo(x, -1, 30 + 56, 0, 0, 1, 1);
        judgedSo(x, 2, 30 + 56, 0, 0, 1, 1, 1, 0, 0, 2);
        Shop.rule(x, "1", "size * 100", "0");
        judgedSo(x, -1, 30 + 100 + 56 + 200, 0, 0, 1, 1);
        x.buy(0, 4);
        judgedSo(x, 1, 130, 0, 0, 1, 2, 1, 1);
    }

    private static void judgeIsRefused() {
        int[][] wrong = {{MIN, 0, -2}, {-1, 0, -2}, {4, 0, -2}, {MAX, 1, -2}, {1, MIN, -2},
            {1, -1, -2}, {1, 2, -2}, {1, MAX, -2}, {3, 2, -2}, {2, 2, -2}, {3, 0, -11},
            {3, 1, -11}, {2, 0, -2}, {2, 1, -2}};
        for (int[] w : wrong) {
            Check.refused("judge(" + w[0] + ", " + w[1] + ")", Shop::busy,
                    x -> x.judge(w[0], w[1]), w[2]);
        }
        for (int size : new int[] {1, 3, 39}) {
            Check.refused("judge(0, 0), of " + size, x -> {
                Shop.busy(x);
                x.sheet(0, 0, size);
            }, x -> x.judge(0, 0), -2);
        }
        Check.asks("judge(1, 0)", Shop::busy, x -> x.judge(1, 0), -1);
        Check.asks("judge(1, 1)", Shop::busy, x -> x.judge(1, 1), 30 + 4 + 9 + 4);
    }

    /** The draws by the document's words, in longs. */
    private static int drawnOf(int seed, int things, int[] pays) {
        long z = seed;
        int sum = 0;
        for (int t = 0; t < things; t++) {
            z = z * 1103515245L + 12345L & 0xFFFFFFFFL;
            sum += pays[(int) ((z >> 10) % pays.length)];
        }
        return sum;
    }

    private static void drawsWrap() {
        CostsAge x = Shop.grown(7);
        int[] pays = {10, 11, 12, 13, 14, 15, 16};
        for (int t = 1; t <= 7; t++) {
            x.thing(0, 0);
            for (int seed : new int[] {0, 1, -1, 2, 12345, -12345, 1 << 30, MIN, MIN + 1, MAX,
                MAX - 1}) {
                Check.due(t + " THINGS: drawn(" + seed + ")", x.drawn(seed),
                        drawnOf(seed, t, pays));
            }
        }
        // 12345 >>> 10 is 12, and -1103502900 >>> 10 is 3116664.
        CostsAge y = Shop.grown(7);
        y.thing(0, 0);
        Check.due("drawn(0)", y.drawn(0), 10 + 12 % 7);
        Check.due("drawn(-1)", y.drawn(-1), 10 + 3116664 % 7);
    }

    private static void drawsForUnbought() {
        CostsAge x = Shop.grown(3);
        Check.due("of nothing", x.drawn(5), 0);
        Shop.things(x, 0, 0, 0, 0);
        int[] pays = {10, 11, 12};
        for (int left = 4; left > 0; left--) {
            Check.due(left + " are left", x.drawn(5), drawnOf(5, left, pays));
            x.buy(0, 1 << 4 - left);
        }
        Check.due("all BOUGHT", x.drawn(5), 0);
        CostsAge y = Shop.grown(2);
        Shop.things(y, 1, 0, 0);
        Shop.rule(y, "1", "size * 100", "0");
        y.buy(0, 2);
        // Two draws, the first for THING 0: 100 more by any.
        Check.due("by numbers", y.drawn(5), 100 + drawnOf(5, 2, new int[] {10, 11}));
        Check.asks("drawn(5)", Shop::busy, z -> z.drawn(5), 64 + 64 + 13 + 13);
    }

    private static void drawsOfSo() {
        for (int many = 1; many <= 7; many++) {
            CostsAge x = Shop.grown(many);
            Shop.things(x, 0, 0, 0, 0, 0, 0, 0);
            int[] pays = new int[many];
            for (int b = 0; b < many; b++) {
                pays[b] = 10 + b;
            }
            Check.due("of " + many + ": drawn(99)", x.drawn(99), drawnOf(99, 7, pays));
            Check.due("of " + many + ": drawn(-7)", x.drawn(-7), drawnOf(-7, 7, pays));
        }
    }

    private static void drawsServed() {
        CostsAge x = Shop.of(0, 509, 990);
        x.thing(8, 0);
        x.thing(7, 0);
        Check.due("one is served", x.drawn(1), 9);
        Shop.passWeeks(x, 4);
        Check.due("not by next WEEK's YEARS", x.drawn(1), 9);
        x.pass();
        Check.due("both are", x.drawn(1), 20);
        Shop.rule(x, "week = 5", "week", "0");
        Check.due("with adds, without ASKS", x.drawn(1), 30);
        Shop.rule(x, "0", "5", "0");
        Check.due("none is", x.drawn(1), 0);
    }

    private static void nobodyIsDrawn() {
        Check.due("nobody, nothing", new CostsAge().drawn(0), -1);
        for (int seed : new int[] {MIN, -1, 0, MAX}) {
            Check.refused("drawn(" + seed + ")", x -> x.thing(0, 0), x -> x.drawn(seed), -1);
        }
        Check.due("somebody, nothing", Shop.grown(1).drawn(0), 0);
    }

    private static void meanOf(int above, int below, int... years) {
        CostsAge x = new CostsAge();
        for (int y : years) {
            x.buyer(0, 2600 + y, 0);
        }
        Check.due("mean(0)", x.mean(0), above);
        Check.due("mean(1)", x.mean(1), below);
    }

    private static void lowestTerms() {
        meanOf(0, 1, 0);
        meanOf(0, 1, 0, 0, 0, 0, 0, 0, 0);
        meanOf(99, 1, 99);
        meanOf(99, 1, 99, 99, 99, 99, 99, 99, 99);
        meanOf(1, 2, 0, 1);
        meanOf(1, 1, 1, 1);
        meanOf(2, 3, 0, 1, 1);
        meanOf(1, 3, 1, 0, 0, 1, 0, 0);
        meanOf(2, 3, 4, 0, 0, 0, 0, 0);
        meanOf(1, 2, 3, 0, 0, 0, 0, 0);
        meanOf(5, 6, 5, 0, 0, 0, 0, 0);
        meanOf(1, 2, 2, 0, 0, 0);
        meanOf(1, 7, 1, 0, 0, 0, 0, 0, 0);
        meanOf(692, 7, 99, 99, 99, 99, 99, 99, 98);
        Check.asks("mean(0)", Shop::busy, x -> x.mean(0), 59);
        Check.asks("mean(1)", Shop::busy, x -> x.mean(1), 2);
    }

    private static void meanIsRefused() {
        for (int part : new int[] {MIN, -1, 2, MAX}) {
            Check.refused("mean(" + part + ")", Shop::busy, x -> x.mean(part), CostsAge.NO);
        }
        for (int part = 0; part < 2; part++) {
            int p = part;
            Check.refused("nobody: mean(" + p + ")", x -> x.thing(0, 0), x -> x.mean(p),
                    CostsAge.NO);
        }
    }

    private static void imageIsKept() {
        CostsAge x = new CostsAge();
        for (int week = 0; week < 52; week++) {
            Check.due("image()", x.image(), week);
            Check.due("back()", x.back(), week);
            x.pass();
        }
        Check.due("image() behind 51", x.image(), 0);
        x.pass();
        Check.due("back()", x.back(), 0);
        Check.due("THE YEAR", x.count(4), 1);
    }

    /** Each of seven is told so at first, is set to 5, and told as at first behind back(). */
    private static void kept(String what, int told, int set) {
        CostsAge x = new CostsAge();
        Shop.sevens(x);
        x.set(3, 6, 6);
        x.image();
        for (int of = 0; of < 7; of++) {
            int was = x.told(of, told);
            x.set(set, of, 5);
            Check.due(what + " of " + of, x.told(of, told), 5);
            Check.due("back()", x.back(), 1);
            Check.due(what + " of " + of + " behind it", x.told(of, told), was);
        }
        int was = x.told(6, told);
        x.set(set, 6, 4);
        x.image();
        x.back();
        Check.due(what + " of a newer IMAGE", x.told(6, told), 4);
        Check.holds(what + " was otherwise", was != 4);
    }

    private static void keepsBought() {
        CostsAge x = Shop.grown(1);
        Shop.things(x, 0, 0, 0, 0, 0, 0, 0);
        x.buy(0, 34);
        x.image();
        x.buy(0, 65);
        Check.due("count(2)", x.count(2), 3);
        x.back();
        for (int t = 0; t < 7; t++) {
            Check.due("told(" + t + ", 10)", x.told(t, 10), 34 >> t & 1);
        }
        Check.due("count(2) behind it", x.count(2), 5);
        Check.due("bought once more", x.buy(0, 65), 10);
    }

    private static void keepsWeeks() {
        CostsAge x = Shop.of(0, 98, 0);
        Shop.passWeeks(x, 51);
        Check.due("image()", x.image(), 51);
        x.pass();
        Check.due("THE YEAR", x.count(4), 1);
        Check.due("YEARS", x.told(0, 1), 99);
        Check.due("back()", x.back(), 51);
        Check.due("THE WEEK", x.count(3), 51);
        Check.due("THE YEAR", x.count(4), 0);
        Check.due("YEARS", x.told(0, 1), 98);
        Check.due("pass()", x.pass(), 0);
        Check.due("THE YEAR", x.count(4), 1);
        x.image();
        Shop.passWeeks(x, 52);
        x.back();
        Check.due("THE YEAR", x.count(4), 1);
    }

    private static void keepsTheRest() {
        CostsAge x = Shop.grown(1);
        Shop.things(x, 0, 0);
        x.buy(0, 1);
        Shop.rule(x, "1", "7", "0");
        x.set(4, 0, 63);
        x.image();
        x.buy(0, 2);
        Check.due("TILL", x.count(5), 27);
        x.set(4, 0, 0);
        x.force(0);
        x.back();
        Check.due("TILL", x.count(5), 10);
        Check.due("CARRY", x.count(6), 63);
        Check.due("THE RULE", x.count(9), 1);
        Check.due("cost by THE RULE", x.cost(0, 2, 0), 17);
    }

    private static void keepsNoMore() {
        CostsAge x = Shop.grown(2);
        Shop.row(x, 0, 0, 1, 2);
        Check.feed(x, "serves ");
        x.image();
        x.set(2, 0, 44);
        x.cell(0, 0, 10);
        x.cell(0, 1, 11);
        x.sheet(1, 2, 3);
        Check.due("a TEXT since", Check.text(x, "1;adds 0;gains 0;"), 1);
        Check.feed(x, "abc");
        x.back();
        Check.due("BORN", x.told(0, 2), 44);
        Check.due("TEXTS", x.count(7), 2);
        Check.due("THE TAPE", x.count(8), 3);
        Check.due("SHEETS", x.lies(0), 0);
        Check.due("SHEETS", x.things(1, 2, 0, 0), 0);
        Check.due("a TEXT since can be THE RULE", x.force(1), 0);
    }

    private static void theyStay() {
        CostsAge x = Shop.grown(2);
        Shop.things(x, 1, 2);
        x.image();
        x.buyer(5, 2077, 123);
        x.thing(9, 99);
        x.thing(8, 88);
        x.set(3, 0, 2);
        x.set(3, 2, 2);
        x.set(3, 3, 0);
        x.set(0, 2, 80);
        x.thing(7, 77);
        x.buy(0, 1);
        x.buy(0, 4);
        x.buy(0, 8);
        Check.due("back()", x.back(), 0);
        Check.due("BUYERS", x.count(0), 3);
        Check.due("THINGS", x.count(1), 5);
        int[] buyer = {5, 80, 20, 12, 3};
        for (int what = 0; what < buyer.length; what++) {
            Check.due("told(2, " + what + ")", x.told(2, what), buyer[what]);
        }
        int[] third = {9, 99, 2, 1};
        int[] fourth = {8, 88, 0, 1};
        for (int what = 7; what < 11; what++) {
            Check.due("told(2, " + what + ")", x.told(2, what), third[what - 7]);
            Check.due("told(3, " + what + ")", x.told(3, what), fourth[what - 7]);
        }
        Check.due("one that isn't BOUGHT", x.told(4, 10), 0);
        Check.due("the first's OWN", x.told(0, 9), -1);
        Check.due("the first isn't BOUGHT", x.told(0, 10), 0);
        CostsAge none = new CostsAge();
        none.image();
        for (int i = 0; i < 7; i++) {
            none.buyer(0, 2650 + i, 70);
            none.thing(1, 1);
        }
        Check.due("back()", none.back(), 0);
        for (int i = 0; i < 7; i++) {
            Check.due("told(" + i + ", 1)", none.told(i, 1), 50 + i);
            Check.due("told(" + i + ", 3)", none.told(i, 3), 7);
            Check.due("told(" + i + ", 9)", none.told(i, 9), -1);
        }
    }

    private static void backAgain() {
        CostsAge x = Shop.grown(1);
        x.image();
        for (int i = 0; i < 3; i++) {
            x.set(0, 0, 70 + i);
            x.pass();
            Check.due("back()", x.back(), 0);
            Check.due("YEARS", x.told(0, 1), 10);
            Check.due("back() once more", x.back(), 0);
        }
        x.set(0, 0, 20);
        x.image();
        x.set(0, 0, 30);
        x.back();
        Check.due("the newer one counts", x.told(0, 1), 20);
    }

    private static void noImage() {
        Check.refused("back() at first", x -> { }, CostsAge::back, -3);
        Check.refused("back()", x -> {
            Shop.things(x, 1, 2);
            x.buyer(0, 2630, 0);
            x.buy(0, 1);
            x.pass();
        }, CostsAge::back, -3);
    }

    private static void counts() {
        CostsAge x = new CostsAge();
        Shop.busy(x);
        int[] due = {4, 5, 4, 4, 0, 34, 10, 3, 23, 2};
        for (int what = 0; what < due.length; what++) {
            int w = what;
            Check.asks("count(" + w + ")", Shop::busy, y -> y.count(w), due[w]);
        }
        CostsAge full = new CostsAge();
        Shop.sevens(full);
        Check.due("BUYERS", full.count(0), 7);
        Check.due("THINGS", full.count(1), 7);
        Check.due("not BOUGHT", full.count(2), 7);
        for (int t = 0; t < 7; t++) {
            full.buy(0, 1 << t);
            Check.due("not BOUGHT", full.count(2), 6 - t);
        }
    }

    private static void countIsRefused() {
        for (int what : new int[] {MIN, -1, 10, MAX}) {
            Check.refused("count(" + what + ")", Shop::busy, x -> x.count(what), -2);
            Check.due("count(" + what + ") at first", new CostsAge().count(what), -2);
        }
    }
}
