/** The edges that the document names of BUYERS, THINGS and what is counted: promises 1 to 5. */
public final class EdgesOfBuyersTest {
    private static final int MIN = Integer.MIN_VALUE, MAX = Integer.MAX_VALUE;

    private EdgesOfBuyersTest() {
    }

    public static void main(String[] args) {
        Check.sentence("BUYERS (7 at most, numbered from 0)", EdgesOfBuyersTest::sevenBuyers);
        Check.sentence("A KIND: 0 .. 5", EdgesOfBuyersTest::kinds);
        Check.sentence("BORN: the WEEK of the year (0 .. 51)", EdgesOfBuyersTest::born);
        Check.sentence("YEARS (0 .. 99)", EdgesOfBuyersTest::years);
        Check.sentence("YEARS are held so as WEEKS go by", EdgesOfBuyersTest::yearsAreHeld);
        Check.sentence("a FEE (0 .. 99) that one asks", EdgesOfBuyersTest::fees);
        Check.sentence("a NUMBER (0 .. 9)", EdgesOfBuyersTest::numbers);
        Check.sentence("THINGS (7 at most, numbered from 0)", EdgesOfBuyersTest::sevenThings);
        Check.sentence("THINGS have a SIZE (0 .. 9)", EdgesOfBuyersTest::sizes);
        Check.sentence("THINGS have a VALUE (0 .. 999)", EdgesOfBuyersTest::values);
        Check.sentence("OWN to a BUYER, or to nobody (at first)", EdgesOfBuyersTest::owners);
        Check.sentence("BOUGHT or not (not at first)", EdgesOfBuyersTest::bought);
        Check.sentence("THE WEEK (0 .. 51; 0 at first)", EdgesOfBuyersTest::theWeek);
        Check.sentence("THE YEAR (0 .. 99; 0 at first)", EdgesOfBuyersTest::theYear);
        Check.sentence("TILL (what the shop took; 0 at first)", EdgesOfBuyersTest::till);
        Check.sentence("CARRY (0 .. 63; 9 at first)", EdgesOfBuyersTest::carry);
        Check.sentence("NONE is -1; NO -4611686018427387904", EdgesOfBuyersTest::constants);
        Check.sentence("A new object: Nobody, nothing.", EdgesOfBuyersTest::aNewObject);
        Check.sentence("at most 512 calls", EdgesOfBuyersTest::lastCall);
        Check.sentence("buyer: the number. BAD; FULL.", EdgesOfBuyersTest::buyerIsRefused);
        Check.sentence("thing: its number. BAD; FULL.", EdgesOfBuyersTest::thingIsRefused);
        Check.sentence("set: becomes v: what it was", EdgesOfBuyersTest::setTellsWhatWas);
        Check.sentence("set: BAD", EdgesOfBuyersTest::setIsRefused);
        Check.sentence("set: CARRY (4; of does not matter)", EdgesOfBuyersTest::ofDoesNotMatter);
        Check.sentence("told: 0 .. 6 of a BUYER, 7 .. 10 of a THING", EdgesOfBuyersTest::told);
        Check.sentence("told: PENCE now, ASKS now", EdgesOfBuyersTest::toldNow);
        Check.sentence("told: BAD", EdgesOfBuyersTest::toldIsRefused);
        Check.end();
    }

    private static void sevenBuyers() {
        CostsAge x = new CostsAge();
        Check.due("told(0, 1), nobody being there", x.told(0, 1), -2);
        for (int b = 0; b < 7; b++) {
            Check.due("the next buyer ahead", x.told(b, 1), -2);
            Check.due("buyer()", x.buyer(0, 10 + b, 0), b);
            Check.due("told(" + b + ", 1)", x.told(b, 1), 10 + b);
            Check.due("count(0)", x.count(0), b + 1);
        }
        Check.due("told(-1, 1)", x.told(-1, 1), -2);
        Check.due("told(7, 1)", x.told(7, 1), -2);
        Check.refused("the eighth", Shop::sevens, y -> y.buyer(0, 10, 0), -4);
    }

    private static void kinds() {
        CostsAge x = new CostsAge();
        for (int kind = 0; kind < 6; kind++) {
            Check.due("buyer(" + kind + ", 0, 0)", x.buyer(kind, 0, 0), kind);
            Check.due("its KIND", x.told(kind, 0), kind);
        }
        for (int kind : new int[] {MIN, -1, 6, MAX}) {
            Check.refused("buyer(" + kind + ", 0, 0)", Shop::busy, y -> y.buyer(kind, 0, 0), -2);
        }
    }

    private static void born() {
        CostsAge x = Shop.of(0, 0, 0, 0, 99, 0, 0, 100, 0, 0, 5100, 0, 0, 5199, 0);
        int[] due = {0, 0, 1, 51, 51};
        for (int b = 0; b < due.length; b++) {
            Check.due("told(" + b + ", 2)", x.told(b, 2), due[b]);
        }
        Check.due("set(2, 0, 51)", x.set(2, 0, 51), 0);
        Check.due("set(2, 0, 0)", x.set(2, 0, 0), 51);
        Check.due("told(0, 2)", x.told(0, 2), 0);
        Check.refused("buyer(0, 5200, 0)", Shop::busy, y -> y.buyer(0, 5200, 0), -2);
        Check.refused("buyer(0, -1, 0)", Shop::busy, y -> y.buyer(0, -1, 0), -2);
        Check.refused("set(2, 0, 52)", Shop::busy, y -> y.set(2, 0, 52), -2);
        Check.refused("set(2, 0, -1)", Shop::busy, y -> y.set(2, 0, -1), -2);
    }

    private static void years() {
        CostsAge x = Shop.of(0, 2600, 0, 0, 2699, 0, 0, 2700, 0);
        int[] due = {0, 99, 0};
        for (int b = 0; b < due.length; b++) {
            Check.due("told(" + b + ", 1)", x.told(b, 1), due[b]);
        }
        Check.due("set(0, 0, 99)", x.set(0, 0, 99), 0);
        Check.due("set(0, 0, 0)", x.set(0, 0, 0), 99);
        Check.due("told(0, 1)", x.told(0, 1), 0);
        Check.refused("set(0, 0, 100)", Shop::busy, y -> y.set(0, 0, 100), -2);
        Check.refused("set(0, 0, -1)", Shop::busy, y -> y.set(0, 0, -1), -2);
    }

    private static void yearsAreHeld() {
        CostsAge x = Shop.of(0, 198, 0, 0, 199, 0);
        Check.due("years(0, 1)", x.years(0, 1), 99);
        Check.due("years(0, 53)", x.years(0, 53), 99);
        Check.due("years(1, 1)", x.years(1, 1), 99);
        x.pass();
        Check.due("98 and a birthday", x.told(0, 1), 99);
        Check.due("99 and a birthday", x.told(1, 1), 99);
        Shop.passWeeks(x, 52);
        Check.due("99 by pass()", x.told(0, 1), 99);
    }

    private static void fees() {
        CostsAge x = Shop.of(0, 0, 0, 0, 0, 9, 0, 0, 10, 0, 0, 990, 0, 0, 999);
        int[] due = {0, 0, 1, 99, 99};
        for (int b = 0; b < due.length; b++) {
            Check.due("told(" + b + ", 3)", x.told(b, 3), due[b]);
        }
        Check.due("set(1, 0, 99)", x.set(1, 0, 99), 0);
        Check.due("set(1, 0, 0)", x.set(1, 0, 0), 99);
        Check.due("told(0, 3)", x.told(0, 3), 0);
        Check.refused("buyer(0, 0, 1000)", Shop::busy, y -> y.buyer(0, 0, 1000), -2);
        Check.refused("set(1, 0, 100)", Shop::busy, y -> y.set(1, 0, 100), -2);
        Check.refused("set(1, 0, -1)", Shop::busy, y -> y.set(1, 0, -1), -2);
    }

    private static void numbers() {
        CostsAge x = Shop.of(0, 0, 0, 0, 0, 9, 0, 0, 10, 0, 0, 999);
        int[] due = {0, 9, 0, 9};
        for (int b = 0; b < due.length; b++) {
            Check.due("told(" + b + ", 4)", x.told(b, 4), due[b]);
        }
        Check.refused("buyer(0, 0, -1)", Shop::busy, y -> y.buyer(0, 0, -1), -2);
    }

    private static void sevenThings() {
        CostsAge x = new CostsAge();
        Check.due("told(0, 7), nothing being there", x.told(0, 7), -2);
        for (int t = 0; t < 7; t++) {
            Check.due("the next thing ahead", x.told(t, 8), -2);
            Check.due("thing()", x.thing(1, 10 + t), t);
            Check.due("told(" + t + ", 8)", x.told(t, 8), 10 + t);
            Check.due("count(1)", x.count(1), t + 1);
        }
        Check.due("told(-1, 8)", x.told(-1, 8), -2);
        Check.due("told(7, 8)", x.told(7, 8), -2);
        Check.refused("the eighth", Shop::sevens, y -> y.thing(1, 10), -4);
    }

    private static void sizes() {
        CostsAge x = new CostsAge();
        x.thing(0, 5);
        x.thing(9, 5);
        Check.due("told(0, 7)", x.told(0, 7), 0);
        Check.due("told(1, 7)", x.told(1, 7), 9);
        for (int size : new int[] {MIN, -1, 10, MAX}) {
            Check.refused("thing(" + size + ", 0)", Shop::busy, y -> y.thing(size, 0), -2);
        }
    }

    private static void values() {
        CostsAge x = new CostsAge();
        x.thing(5, 0);
        x.thing(5, 999);
        Check.due("told(0, 8)", x.told(0, 8), 0);
        Check.due("told(1, 8)", x.told(1, 8), 999);
        for (int value : new int[] {MIN, -1, 1000, MAX}) {
            Check.refused("thing(0, " + value + ")", Shop::busy, y -> y.thing(0, value), -2);
        }
    }

    private static void owners() {
        CostsAge x = Shop.grown(7);
        x.thing(1, 1);
        Check.due("told(0, 9) at first", x.told(0, 9), -1);
        Check.due("set(3, 0, 0)", x.set(3, 0, 0), -1);
        Check.due("set(3, 0, 6)", x.set(3, 0, 6), 0);
        Check.due("told(0, 9)", x.told(0, 9), 6);
        Check.due("set(3, 0, -1)", x.set(3, 0, -1), 6);
        Check.due("told(0, 9), to nobody again", x.told(0, 9), -1);
        for (int v : new int[] {MIN, -2, 4, 7, MAX}) {
            Check.refused("set(3, 0, " + v + ")", Shop::busy, y -> y.set(3, 0, v), -2);
        }
        CostsAge nobody = new CostsAge();
        nobody.thing(1, 1);
        Check.due("set(3, 0, 0), nobody being there", nobody.set(3, 0, 0), -2);
        Check.due("set(3, 0, -1), nobody being there", nobody.set(3, 0, -1), -1);
    }

    private static void bought() {
        CostsAge x = Shop.grown(1);
        for (int t = 0; t < 7; t++) {
            x.thing(0, 0);
            Check.due("told(" + t + ", 10) at first", x.told(t, 10), 0);
        }
        x.buy(0, 65);
        for (int t = 0; t < 7; t++) {
            Check.due("told(" + t + ", 10)", x.told(t, 10), t == 0 || t == 6 ? 1 : 0);
        }
    }

    private static void theWeek() {
        CostsAge x = new CostsAge();
        Check.due("count(3) at first", x.count(3), 0);
        Shop.passWeeks(x, 51);
        Check.due("count(3), the last", x.count(3), 51);
        x.pass();
        Check.due("count(3) behind it", x.count(3), 0);
    }

    private static void theYear() {
        CostsAge x = new CostsAge();
        Check.due("count(4) at first", x.count(4), 0);
        for (int year = 1; year <= 9; year++) {
            Shop.passWeeks(x, 51);
            Check.due("count(4), a WEEK ahead", x.count(4), year - 1);
            x.pass();
            Check.due("count(4)", x.count(4), year);
        }
        // Past what is promised of an object, but the only way to THE YEAR's end.
        Shop.passWeeks(x, 90 * 52);
        Check.due("count(4), the last", x.count(4), 99);
        Shop.passWeeks(x, 52);
        Check.due("count(4) behind it", x.count(4), 99);
    }

    private static void till() {
        CostsAge x = Shop.grown(2);
        Shop.things(x, 1, 1, 1);
        Check.due("count(5) at first", x.count(5), 0);
        x.buy(0, 1);
        Check.due("count(5)", x.count(5), 10);
        x.buy(1, 6);
        Check.due("count(5)", x.count(5), 21);
        x.buy(1, 6);
        Check.due("count(5) behind a refusal", x.count(5), 21);
    }

    private static void carry() {
        CostsAge x = new CostsAge();
        Check.due("count(6) at first", x.count(6), 9);
        Check.due("set(4, 0, 63)", x.set(4, 0, 63), 9);
        Check.due("count(6)", x.count(6), 63);
        Check.due("set(4, 0, 0)", x.set(4, 0, 0), 63);
        Check.due("count(6)", x.count(6), 0);
        for (int v : new int[] {MIN, -1, 64, MAX}) {
            Check.refused("set(4, 0, " + v + ")", Shop::busy, y -> y.set(4, 0, v), -2);
        }
    }

    private static void constants() {
        Check.due("NONE", CostsAge.NONE, -1);
        Check.due("BAD", CostsAge.BAD, -2);
        Check.due("STATE", CostsAge.STATE, -3);
        Check.due("FULL", CostsAge.FULL, -4);
        Check.due("NO", CostsAge.NO, -4611686018427387904L);
    }

    private static void aNewObject() {
        CostsAge busy = new CostsAge();
        Shop.busy(busy);
        CostsAge x = new CostsAge();
        int[] due = {0, 0, 0, 0, 0, 0, 9, 1, 0, 0};
        for (int what = 0; what < due.length; what++) {
            Check.due("count(" + what + ")", x.count(what), due[what]);
        }
        for (int of = 0; of < 7; of++) {
            Check.due("told(" + of + ", 0)", x.told(of, 0), -2);
            Check.due("told(" + of + ", 7)", x.told(of, 7), -2);
        }
        for (int s = 0; s < 4; s++) {
            Check.due("lies(" + s + ")", x.lies(s), -11);
        }
        Check.due("back()", x.back(), -3);
    }

    private static void lastCall() {
        CostsAge x = new CostsAge();
        x.buyer(0, 4310, 0);
        Shop.passWeeks(x, 510);
        Check.due("the last WEEK but one", x.pass(), 511 % 52);
        CostsAge fed = new CostsAge();
        Shop.sevens(fed);
        int left = 512 - 16;
        for (int i = 0; i < left - 1; i++) {
            fed.set(4, 0, i % 64);
        }
        Check.due("the 512th call", fed.set(4, 0, 1), (left - 2) % 64);
    }

    private static void buyerIsRefused() {
        int[][] wrong = {{MIN, 0, 0}, {-1, 0, 0}, {6, 0, 0}, {MAX, 0, 0}, {0, MIN, 0}, {0, -1, 0},
            {0, 5200, 0}, {0, MAX, 0}, {0, 0, MIN}, {0, 0, -1}, {0, 0, 1000}, {0, 0, MAX},
            {0, -100, 0}, {0, 5300, 10}, {6, 5200, 1000}};
        for (int[] w : wrong) {
            String call = "buyer(" + w[0] + ", " + w[1] + ", " + w[2] + ")";
            Check.refused(call, Shop::busy, x -> x.buyer(w[0], w[1], w[2]), -2);
            Check.refused("full: " + call, Shop::sevens, x -> x.buyer(w[0], w[1], w[2]), -2);
        }
        for (int kind = 0; kind < 6; kind++) {
            int k = kind;
            Check.refused("full: buyer(" + k + ", 5199, 999)", Shop::sevens,
                    x -> x.buyer(k, 5199, 999), -4);
        }
    }

    private static void thingIsRefused() {
        int[][] wrong = {{MIN, 0}, {-1, 0}, {10, 0}, {MAX, 0}, {0, MIN}, {0, -1}, {0, 1000},
            {0, MAX}, {10, 1000}};
        for (int[] w : wrong) {
            String call = "thing(" + w[0] + ", " + w[1] + ")";
            Check.refused(call, Shop::busy, x -> x.thing(w[0], w[1]), -2);
            Check.refused("full: " + call, Shop::sevens, x -> x.thing(w[0], w[1]), -2);
        }
        Check.refused("full: thing(0, 0)", Shop::sevens, x -> x.thing(0, 0), -4);
        Check.refused("full: thing(9, 999)", Shop::sevens, x -> x.thing(9, 999), -4);
    }

    private static void setTellsWhatWas() {
        CostsAge x = new CostsAge();
        Shop.sevens(x);
        int[][] asks = {{0, 1}, {1, 3}, {2, 2}, {3, 9}};
        for (int[] a : asks) {
            for (int of = 0; of < 7; of++) {
                int was = x.told(of, a[1]);
                String call = "set(" + a[0] + ", " + of + ", 5)";
                Check.due(call, x.set(a[0], of, 5), was);
                Check.due(call + " again", x.set(a[0], of, 5), 5);
                Check.due("told behind " + call, x.told(of, a[1]), 5);
            }
        }
        Check.due("KIND and NUMBER stay", 10 * x.told(1, 0) + x.told(1, 4), 12);
    }

    private static void setIsRefused() {
        int[][] wrong = {{-1, 0, 0}, {5, 0, 0}, {MIN, 0, 0}, {MAX, 0, 0}, {0, -1, 0}, {0, 4, 0},
            {1, -1, 0}, {1, 4, 0}, {2, -1, 0}, {2, 4, 0}, {3, -1, 0}, {3, 5, 0}, {3, 5, -1},
            {3, 0, 4}, {3, 0, -2}, {0, MIN, 0}, {3, MAX, 0}, {0, 0, MIN}, {1, 0, MAX},
            {2, 0, MAX}, {3, 0, MIN}, {4, 0, MIN}};
        for (int[] w : wrong) {
            Check.refused("set(" + w[0] + ", " + w[1] + ", " + w[2] + ")", Shop::busy,
                    x -> x.set(w[0], w[1], w[2]), -2);
        }
    }

    private static void ofDoesNotMatter() {
        CostsAge x = new CostsAge();
        int was = 9;
        for (int of : new int[] {MIN, -1, 0, 7, MAX}) {
            Check.due("set(4, " + of + ", " + (was + 1) + ")", x.set(4, of, was + 1), was);
            was++;
        }
    }

    private static void told() {
        CostsAge x = new CostsAge();
        x.buyer(5, 2570, 34);
        x.thing(3, 45);
        int[] due = {5, 70, 25, 3, 4, 61, 10, 3, 45, -1, 0};
        for (int what = 0; what < due.length; what++) {
            int w = what;
            Check.asks("told(0, " + w + ")", y -> {
                y.buyer(5, 2570, 34);
                y.thing(3, 45);
            }, y -> y.told(0, w), due[w]);
        }
    }

    private static void toldNow() {
        CostsAge x = Shop.of(4, 109, 71);
        Check.due("PENCE in WEEK 0", x.told(0, 5), 9);
        x.pass();
        Check.due("PENCE in WEEK 1, 10 YEARS, NUMBER 1", x.told(0, 5), 11);
        x.pass();
        Check.due("PENCE in WEEK 2", x.told(0, 5), 10);
        Check.due("ASKS by 7", x.told(0, 6), 3);
        x.set(1, 0, 8);
        Check.due("ASKS by 8", x.told(0, 6), 4);
        x.set(0, 0, 50);
        Check.due("PENCE of 50 YEARS", x.told(0, 5), 50);
    }

    private static void toldIsRefused() {
        // There are 4 BUYERS and 5 THINGS.
        int[][] wrong = {{-1, 0}, {4, 0}, {4, 6}, {-1, 6}, {-1, 7}, {5, 7}, {5, 10}, {0, -1},
            {0, 11}, {0, MIN}, {0, MAX}, {MIN, 0}, {MAX, 7}};
        for (int[] w : wrong) {
            Check.refused("told(" + w[0] + ", " + w[1] + ")", Shop::busy,
                    x -> x.told(w[0], w[1]), -2);
        }
        Check.asks("told(3, 6), the last BUYER", Shop::busy, x -> x.told(3, 6), 2);
        Check.asks("told(4, 7), the last THING", Shop::busy, x -> x.told(4, 7), 1);
    }
}
