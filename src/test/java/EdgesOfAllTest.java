/** The edges that the document names of ALL, EACH ONE, GAIN, A YEAR and FEES: promises 15 to 20. */
public final class EdgesOfAllTest {
    private static final int MIN = Integer.MIN_VALUE, MAX = Integer.MAX_VALUE;

    private EdgesOfAllTest() {
    }

    public static void main(String[] args) {
        all();
        eachOne();
        gain();
        rest();
        Check.end();
    }

    private static void all() {
        Check.sentence("ALL of what isn't BOUGHT", EdgesOfAllTest::whatIsNotBought);
        Check.sentence("heaps of it that may be TIED", EdgesOfAllTest::mayBeTied);
        Check.sentence("each bought by its BEST now", EdgesOfAllTest::bestNow);
        Check.sentence("that of least COST together", EdgesOfAllTest::leastCost);
        Check.sentence("of like ones that of fewest heaps", EdgesOfAllTest::fewestHeaps);
        Check.sentence("the heap (as bits) of the least THING is least",
                EdgesOfAllTest::leastHeapFirst);
        Check.sentence("then that of the least one of those left", EdgesOfAllTest::thenOfThoseLeft);
        Check.sentence("all: of nothing 0", EdgesOfAllTest::allOfNothing);
        Check.sentence("all: NONE: it can't be", EdgesOfAllTest::allCantBe);
        Check.sentence("all: BAD", EdgesOfAllTest::allIsRefused);
        Check.sentence("heap: the heap of a THING", EdgesOfAllTest::heapOfSeven);
        Check.sentence("heap: BAD; STATE: it is BOUGHT; NONE", EdgesOfAllTest::heapIsRefused);
    }

    private static void eachOne() {
        Check.sentence("EACH ONE: all THINGS that aren't BOUGHT", EdgesOfAllTest::eachNotBought);
        Check.sentence("EACH ONE: no two by one BUYER", EdgesOfAllTest::noTwoByOne);
        Check.sentence("EACH ONE: the least COST together", EdgesOfAllTest::eachLeast);
        Check.sentence("EACH ONE: are bought now", EdgesOfAllTest::eachNow);
        Check.sentence("eachOne: (of nothing: 0)", EdgesOfAllTest::eachOfNothing);
        Check.sentence("EACH ONE: NONE: it can't be", EdgesOfAllTest::eachCantBe);
    }

    private static void gain() {
        Check.sentence("GAIN: the one by whom gains less COST is most", EdgesOfAllTest::mostGain);
        Check.sentence("GAIN: of like ones the first", EdgesOfAllTest::firstOfLikeGains);
        Check.sentence("GAIN: of BUYERS who can now", EdgesOfAllTest::gainNow);
        Check.sentence("gain: NO: THING, what; it is BOUGHT; nobody can",
                EdgesOfAllTest::gainIsRefused);
        Check.sentence("A YEAR: in 0 .. 51 WEEKS", EdgesOfAllTest::fiftyTwoWeeks);
        Check.sentence("A YEAR: each THING that isn't BOUGHT, together",
                EdgesOfAllTest::yearTogether);
        Check.sentence("A YEAR: nothing for those that nobody can", EdgesOfAllTest::yearOfNothing);
    }

    private static void rest() {
        Check.sentence("EARNS: what that one ASKS for each THING", EdgesOfAllTest::earnsForEach);
        Check.sentence("EARNS: that isn't BOUGHT", EdgesOfAllTest::earnsNotOfBought);
        Check.sentence("EARNS: of which it is BEST now", EdgesOfAllTest::earnsIfBest);
        Check.sentence("EARNS: which isn't OWN to it", EdgesOfAllTest::earnsNotOfOwn);
        Check.sentence("FEES AT REST: in rounds, 4 at most", EdgesOfAllTest::fourRounds);
        Check.sentence("FEES AT REST: of FEES 0 .. 20", EdgesOfAllTest::feesToTwenty);
        Check.sentence("FEES AT REST: (of like ones the least)", EdgesOfAllTest::leastOfLikeFees);
        Check.sentence("FEES AT REST: if that is more than they EARN by the one they have",
                EdgesOfAllTest::onlyIfMore);
        Check.sentence("FEES AT REST: BUYERS by numbers", EdgesOfAllTest::byNumbers);
        Check.sentence("FEES AT REST: it ends behind a round in which nobody did",
                EdgesOfAllTest::nobodyDid);
        Check.sentence("rest: the FEE of a BUYER. BAD.", EdgesOfAllTest::restIsRefused);
    }

    private static void allIs(CostsAge x, int cost, int heaps, int... heapOfEach) {
        Check.due("all(0)", x.all(0), cost);
        Check.due("all(1)", x.all(1), heaps);
        for (int t = 0; t < heapOfEach.length; t++) {
            Check.due("heap(" + t + ")", x.heap(t), heapOfEach[t]);
        }
    }

    private static void whatIsNotBought() {
        CostsAge x = Shop.grown(1);
        Shop.things(x, 0, 0, 0);
        allIs(x, 10, 1, 7, 7, 7);
        x.buy(0, 1);
        allIs(x, 10, 1, -3, 6, 6);
        x.buy(0, 4);
        allIs(x, 10, 1, -3, 2, -3);
        x.buy(0, 2);
        allIs(x, 0, 0, -3, -3, -3);
        x.thing(0, 0);
        allIs(x, 10, 1, -3, -3, -3, 8);
    }

    private static void mayBeTied() {
        CostsAge x = Shop.grown(1);
        Shop.things(x, 4, 5, 9);
        allIs(x, 20, 2, 3, 3, 4);
        x.set(4, 0, 8);
        allIs(x, 30, 3, 1, 2, 4);
        x.set(4, 0, 17);
        allIs(x, 20, 2, 1, 6, 6);
        x.set(4, 0, 18);
        allIs(x, 10, 1, 7, 7, 7);
        x.set(4, 0, 0);
        allIs(x, 30, 3, 1, 2, 4);
    }

    private static void bestNow() {
        CostsAge x = Shop.of(0, 530, 0, 4, 2626, 0, 4, 2626, 3);
        Shop.things(x, 0, 0);
        Shop.passWeeks(x, 4);
        allIs(x, 26, 1, 3, 3);
        Check.due("BEST", x.best(3, 0, 0), 2);
        Shop.rule(x, "week = 4", "week", "0");
        allIs(x, 30, 1, 3, 3);
        Shop.rule(x, "week < 4 or 4 < week", "0", "0");
        allIs(x, -1, -1, -1, -1);
    }

    private static void leastCost() {
        CostsAge x = Shop.of(0, 2602, 0);
        Shop.things(x, 1, 1, 1);
        Shop.rule(x, "1", "size * size", "0");
        // One alone is 3, two are 6, three are 11.
        allIs(x, 9, 2, 1, 6, 6);
        x.set(0, 0, 1);
        allIs(x, 6, 3, 1, 2, 4);
        x.set(0, 0, 5);
        allIs(x, 14, 1, 7, 7, 7);
        CostsAge most = Shop.of(3, 2699, 990);
        for (int t = 0; t < 7; t++) {
            most.thing(9, 999);
        }
        Shop.rule(most, "1", "999", "0");
        allIs(most, 7 * (198 + 999 + 54), 7, 1, 2, 4, 8, 16, 32, 64);
    }

    private static void fewestHeaps() {
        CostsAge x = Shop.of(0, 2600, 0);
        Shop.things(x, 0, 0, 0, 0, 0, 0, 0);
        allIs(x, 0, 1, 127, 127, 127, 127, 127, 127, 127);
        x.set(4, 0, 0);
        allIs(x, 0, 1, 127);
        CostsAge y = Shop.of(0, 2602, 0);
        Shop.things(y, 1, 1);
        Shop.rule(y, "1", "size * size", "0");
        // Two alone are 6, and so are the two tied.
        allIs(y, 6, 1, 3, 3);
        CostsAge own = Shop.of(0, 2610, 50, 0, 2610, 50);
        Shop.things(own, 0, 0);
        own.set(3, 0, 0);
        own.set(3, 1, 1);
        allIs(own, 15, 1, 3, 3);
    }

    private static void leastHeapFirst() {
        CostsAge x = Shop.grown(1);
        Shop.things(x, 4, 4, 4);
        // {0} {1 2}, {0 1} {2} and {0 2} {1} are alike: heaps 1, 3 and 5 of THING 0.
        allIs(x, 20, 2, 1, 6, 6);
        x.thing(4, 0);
        // {0 1} {2 3}, {0 2} {1 3}, {0 3} {1 2}: heaps 3, 5 and 9.
        allIs(x, 20, 2, 3, 3, 12, 12);
        x.buy(0, 1);
        allIs(x, 20, 2, -3, 2, 12, 12);
    }

    private static void thenOfThoseLeft() {
        CostsAge x = Shop.grown(1);
        Shop.things(x, 9, 4, 4, 4);
        allIs(x, 30, 3, 1, 2, 12, 12);
        x.thing(4, 0);
        allIs(x, 30, 3, 1, 6, 6, 24, 24);
        x.thing(4, 0);
        x.thing(4, 0);
        allIs(x, 40, 4, 1, 6, 6, 24, 24, 96, 96);
        CostsAge y = Shop.grown(1);
        Shop.things(y, 4, 4, 4, 4, 4);
        // 0 alone; then 1 with 2, with 3 or with 4: heaps 6, 10 and 18.
        allIs(y, 30, 3, 1, 6, 6, 24, 24);
    }

    private static void allOfNothing() {
        CostsAge x = new CostsAge();
        allIs(x, 0, 0);
        x.buyer(0, 2630, 0);
        allIs(x, 0, 0);
        x.thing(0, 0);
        allIs(x, 30, 1, 1);
        x.buy(0, 1);
        allIs(x, 0, 0, -3);
        CostsAge nobody = new CostsAge();
        nobody.thing(0, 0);
        allIs(nobody, -1, -1, -1);
    }

    private static void allCantBe() {
        CostsAge x = Shop.of(0, 2609, 0);
        Shop.things(x, 0, 8, 0);
        allIs(x, -1, -1, -1, -1, -1);
        x.set(0, 0, 10);
        allIs(x, 10, 1, 7, 7, 7);
        Shop.rule(x, "size = 8", "0", "0");
        allIs(x, 10, 1, 7, 7, 7);
        x.set(4, 0, 7);
        allIs(x, -1, -1, -1, -1, -1);
        Shop.rule(x, "0", "0", "0");
        allIs(x, -1, -1, -1, -1, -1);
    }

    private static void allIsRefused() {
        for (int what : new int[] {MIN, -1, 2, MAX}) {
            Check.refused("all(" + what + ")", Shop::busy, x -> x.all(what), -2);
            Check.due("of nothing: all(" + what + ")", new CostsAge().all(what), -2);
            Check.refused("it can't be: all(" + what + ")", x -> x.thing(0, 0),
                    x -> x.all(what), -2);
        }
        Check.asks("all(0)", Shop::sevens, x -> x.all(0), 0);
        Check.asks("all(1)", Shop::sevens, x -> x.all(1), 3);
    }

    private static void heapOfSeven() {
        CostsAge x = Shop.grown(7);
        Shop.things(x, 9, 0, 9, 0, 9, 0, 9);
        allIs(x, 40, 4, 1, 6, 6, 24, 24, 96, 96);
        x.set(4, 0, 63);
        allIs(x, 10, 1, 127, 127, 127, 127, 127, 127, 127);
        // Of no COST are 7 and less together: {0 3 4} {1 6} {2 5}.
        Check.asks("heap(6), the last one", Shop::sevens, y -> y.heap(6), 66);
    }

    private static void heapIsRefused() {
        for (int thing : new int[] {MIN, -1, 5, 7, 32, 34, MAX}) {
            Check.refused("heap(" + thing + ")", Shop::busy, x -> x.heap(thing), -2);
        }
        Check.refused("heap(2)", Shop::busy, x -> x.heap(2), -3);
        CostsAge x = Shop.grown(1);
        Shop.things(x, 0, 0);
        x.buy(0, 1);
        x.set(0, 0, 0);
        Shop.rule(x, "0", "0", "0");
        Check.due("BOUGHT, and it can't be", x.heap(0), -3);
        Check.due("it can't be", x.heap(1), -1);
        Check.due("none such, and it can't be", x.heap(2), -2);
        Check.due("nothing is there", new CostsAge().heap(0), -2);
    }

    private static void eachNotBought() {
        CostsAge x = Shop.grown(2);
        Shop.things(x, 0, 0, 0);
        Check.due("three, by two", x.eachOne(), -1);
        x.buy(0, 1);
        Check.due("two are left", x.eachOne(), 21);
        x.buy(0, 4);
        Check.due("one is left", x.eachOne(), 10);
        x.buy(0, 2);
        Check.due("none is left", x.eachOne(), 0);
    }

    private static void noTwoByOne() {
        CostsAge x = Shop.grown(7);
        for (int t = 0; t < 7; t++) {
            x.thing(0, 0);
            Check.due("of " + (t + 1), x.eachOne(), 10 * (t + 1) + t * (t + 1) / 2);
        }
        CostsAge six = Shop.grown(6);
        Shop.things(six, 0, 0, 0, 0, 0, 0, 0);
        Check.due("seven by six", six.eachOne(), -1);
        six.buyer(0, 2650, 0);
        Check.due("seven by seven", six.eachOne(), 75 + 50);
    }

    private static void eachLeast() {
        CostsAge x = Shop.of(0, 2600, 50, 0, 2600, 50);
        Shop.things(x, 0, 0);
        Check.due("nobody's", x.eachOne(), 10);
        x.set(3, 0, 1);
        x.set(3, 1, 0);
        Check.due("each the other's turn", x.eachOne(), 0);
        x.set(3, 0, 0);
        x.set(3, 1, 1);
        Check.due("each in turn", x.eachOne(), 0);
        x.set(3, 1, 0);
        Check.due("both OWN to one", x.eachOne(), 5);
        CostsAge free = Shop.of(0, 2604, 0, 0, 2600, 0, 0, 2607, 0);
        free.thing(0, 0);
        Check.due("for nothing", free.eachOne(), 0);
        // The cheap one is for the thing that nobody else can buy.
        CostsAge y = Shop.of(0, 2609, 0, 0, 2610, 300, 0, 2690, 0);
        Shop.things(y, 8, 0);
        Check.due("9 buys the small one", y.eachOne(), 49);
        y.thing(8, 0);
        Check.due("two large ones", y.eachOne(), 9 + 40 + 90);
    }

    private static void eachNow() {
        CostsAge x = Shop.of(0, 530, 0, 4, 2626, 0, 4, 2626, 3);
        Shop.things(x, 0);
        Shop.passWeeks(x, 4);
        Check.due("not a TWIN of WEEK 4", x.eachOne(), 26);
        Shop.things(x, 0, 0);
        Check.due("all", x.eachOne(), 26 + 27 + 30);
        Shop.rule(x, "week = 4", "week", "0");
        Check.due("WEEK 4", x.eachOne(), 83 + 12);
    }

    private static void eachOfNothing() {
        CostsAge x = new CostsAge();
        Check.due("nobody, nothing", x.eachOne(), 0);
        x.buyer(0, 30, 0);
        Check.due("nothing", x.eachOne(), 0);
        Check.asks("sevens", Shop::sevens, CostsAge::eachOne, 0 + 10 + 22 + 66 + 42 + 62 + 67);
    }

    private static void eachCantBe() {
        CostsAge x = new CostsAge();
        x.thing(8, 0);
        Check.due("nobody is there", x.eachOne(), -1);
        x.buyer(0, 2609, 0);
        Check.due("nobody can", x.eachOne(), -1);
        x.buyer(0, 2610, 0);
        Check.due("one can", x.eachOne(), 10);
        x.thing(8, 0);
        Check.due("one can, two things", x.eachOne(), -1);
        // THING 1 is by 2 alone, if 0 buys what is OWN to it.
        Check.asks("busy", Shop::busy, CostsAge::eachOne, 75 + 34 + 13 + 15);
    }

    private static void mostGain() {
        CostsAge x = Shop.of(0, 2630, 0, 0, 2620, 110, 0, 2625, 0);
        x.thing(0, 25);
        Check.due("nothing is gained", x.gain(0, 0), 0);
        Check.due("nothing is gained", x.gain(0, 1), 2);
        x.set(3, 0, 1);
        Check.due("OWN: no ASKS", x.gain(0, 0), 5);
        Check.due("OWN: no ASKS", x.gain(0, 1), 1);
        Shop.rule(x, "1", "0", "0");
        Check.due("a loss", x.gain(0, 0), -20);
        Check.due("a loss", x.gain(0, 1), 1);
        Shop.rule(x, "1", "999", "age * 10");
        Check.due("gains by each, less adds", x.gain(0, 0), 300 - 30 - 999);
        Check.due("gains by each, less adds", x.gain(0, 1), 0);
        CostsAge free = Shop.of(0, 2600, 0);
        free.thing(0, 999);
        Check.due("the most", free.gain(0, 0), 999);
        CostsAge dear = Shop.of(3, 2699, 990);
        dear.thing(0, 0);
        Shop.rule(dear, "1", "999", "0");
        Check.due("the least", dear.gain(0, 0), -(198 + 999 + 54));
    }

    private static void firstOfLikeGains() {
        CostsAge x = new CostsAge();
        for (int b = 0; b < 7; b++) {
            x.buyer(0, 2620, 0);
        }
        x.thing(0, 20);
        for (int b = 0; b < 7; b++) {
            Check.due("like from " + b, x.gain(0, 1), b);
            Check.due("like from " + b, x.gain(0, 0), 0);
            x.set(0, b, 21);
        }
        Check.due("a like loss", x.gain(0, 1), 0);
        Check.due("a like loss", x.gain(0, 0), -1);
        x.set(0, 6, 0);
        Check.due("the last one's is most", x.gain(0, 1), 6);
    }

    private static void gainNow() {
        CostsAge x = Shop.of(0, 509, 0, 0, 2650, 0);
        x.thing(8, 100);
        Shop.passWeeks(x, 4);
        Check.due("the first can't now", x.gain(0, 1), 1);
        Check.due("the first can't now", x.gain(0, 0), 50);
        x.pass();
        Check.due("the first can now", x.gain(0, 1), 0);
        Check.due("the first can now", x.gain(0, 0), 90);
        Shop.rule(x, "week = 5", "week", "week * 20");
        Check.due("WEEK 5", x.gain(0, 0), 100 - 5 - 10);
        CostsAge twin = Shop.of(4, 2630, 0, 4, 2630, 3);
        twin.thing(0, 50);
        Shop.passWeeks(twin, 4);
        Check.due("not a TWIN of WEEK 4", twin.gain(0, 1), 1);
    }

    private static void gainIsRefused() {
        int[][] wrong = {{MIN, 0}, {-1, 0}, {5, 0}, {7, 1}, {32, 0}, {MAX, 0}, {0, -1}, {0, 2},
            {0, MIN}, {0, MAX}, {2, 0}, {2, 1}};
        for (int[] w : wrong) {
            Check.refused("gain(" + w[0] + ", " + w[1] + ")", Shop::busy,
                    x -> x.gain(w[0], w[1]), CostsAge.NO);
        }
        for (int what = 0; what < 2; what++) {
            int w = what;
            Check.refused("nobody is there: gain(0, " + w + ")", x -> x.thing(0, 0),
                    x -> x.gain(0, w), CostsAge.NO);
            Check.refused("nobody can: gain(0, " + w + ")", x -> {
                x.buyer(0, 2609, 0);
                x.thing(8, 999);
            }, x -> x.gain(0, w), CostsAge.NO);
        }
        Check.asks("gain(4, 0), the last one", Shop::busy, x -> x.gain(4, 0), 50 - 9 - 4 - 2);
        Check.asks("gain(4, 1)", Shop::busy, x -> x.gain(4, 1), 3);
    }

    private static void fiftyTwoWeeks() {
        CostsAge x = Shop.of(0, 5109, 0);
        x.thing(8, 0);
        Check.due("in 51", x.year(), 10);
        x.set(2, 0, 0);
        Check.due("not in 52", x.year(), 0);
        x.pass();
        Check.due("in 51 from WEEK 1 on", x.year(), 10);
        x.pass();
        Check.due("in 50 from WEEK 2 on", x.year(), 10);
        CostsAge y = Shop.of(0, 1030, 0);
        y.thing(0, 0);
        Shop.passWeeks(y, 5);
        Shop.rule(y, "week = 5", "0", "0");
        Check.due("in 0", y.year(), 30);
        Shop.rule(y, "week = 4", "0", "0");
        Check.due("in 51, not a WEEK ago", y.year(), 31);
        Shop.rule(y, "week = 5 and age = 31", "0", "0");
        Check.due("not in 52", y.year(), 0);
    }

    private static void yearTogether() {
        CostsAge x = Shop.of(0, 2630, 0, 0, 2631, 0);
        Check.due("nothing is there", x.year(), 0);
        for (int t = 0; t < 7; t++) {
            x.thing(0, 0);
            Check.due("of " + (t + 1), x.year(), 30 * (t + 1));
        }
        x.buy(0, 65);
        Check.due("BOUGHT ones", x.year(), 150);
        Shop.rule(x, "1", "51 - week", "0");
        Check.due("the least in a year", x.year(), 155);
        Shop.rule(x, "age < 31 or 31 < age", "(51 - week) * 20", "0");
        // 30 YEARS till WEEK 25, by 520 more; 32 YEARS behind, till WEEK 51.
        Check.due("by any BUYER", x.year(), 160);
        x.buy(0, 62);
        Check.due("all BOUGHT", x.year(), 0);
    }

    private static void yearOfNothing() {
        CostsAge x = new CostsAge();
        x.thing(8, 0);
        Check.due("nobody is there", x.year(), 0);
        x.buyer(0, 2608, 0);
        Check.due("nobody can", x.year(), 0);
        x.thing(0, 0);
        Check.due("one of two", x.year(), 8);
        Check.asks("sevens, one of 0 YEARS", Shop::sevens, CostsAge::year, 0);
        Check.asks("one of nothing, one of something", y -> {
            y.buyer(0, 2608, 0);
            Shop.things(y, 8, 7);
        }, CostsAge::year, 8);
    }

    private static void restIs(CostsAge x, int... fees) {
        int[] had = new int[fees.length];
        for (int b = 0; b < fees.length; b++) {
            had[b] = x.told(b, 3);
            Check.due("rest(" + b + ")", x.rest(b), fees[b]);
        }
        for (int b = 0; b < fees.length; b++) {
            Check.due("FEE of " + b + " stays", x.told(b, 3), had[b]);
        }
    }

    private static void earnsForEach() {
        // What is OWN to the other one, of 15 YEARS, is 15 by that one, whatever its FEE is.
        CostsAge x = Shop.of(0, 2610, 0, 0, 2615, 70);
        Shop.things(x, 0, 0);
        x.set(3, 0, 1);
        x.set(3, 1, 1);
        restIs(x, 5, 7);
        Shop.rule(x, "age < 15 or size < 5", "0", "0");
        x.thing(5, 0);
        // By 5 three are 15, by 20 the one that the other can't buy is 20.
        restIs(x, 20, 7);
        x.thing(0, 0);
        x.set(3, 3, 1);
        // By 5 four are 20: of like ones the least.
        restIs(x, 5, 7);
    }

    private static void earnsNotOfBought() {
        CostsAge x = Shop.of(0, 2610, 70);
        restIs(x, 7);
        Shop.things(x, 0, 0);
        restIs(x, 20);
        x.buy(0, 1);
        restIs(x, 20);
        x.buy(0, 2);
        restIs(x, 7);
    }

    private static void earnsIfBest() {
        CostsAge x = Shop.of(0, 2610, 0, 0, 2620, 0);
        x.thing(0, 0);
        // Of like ones the first is BEST: by 10 both are 20.
        restIs(x, 10, 0);
        CostsAge y = Shop.of(0, 2620, 0, 0, 2610, 0);
        y.thing(0, 0);
        restIs(y, 0, 9);
        CostsAge z = Shop.of(0, 2610, 0, 0, 2610, 0);
        z.thing(0, 0);
        restIs(z, 0, 0);
        CostsAge free = Shop.of(0, 2610, 70, 0, 2600, 0);
        free.thing(0, 0);
        free.set(3, 0, 1);
        restIs(free, 7, 0);
        CostsAge can = Shop.of(0, 2609, 40);
        can.thing(8, 0);
        restIs(can, 4);
        CostsAge now = Shop.of(0, 110, 0, 0, 2620, 0, 4, 2600, 0);
        now.thing(0, 0);
        Shop.rule(now, "9 < age", "0", "0");
        restIs(now, 10, 0, 0);
        now.pass();
        restIs(now, 9, 0, 0);
        CostsAge week = Shop.of(0, 2610, 0, 0, 2620, 0);
        week.thing(0, 0);
        Shop.passWeeks(week, 4);
        Shop.rule(week, "1", "(age = 10) * week", "0");
        restIs(week, 6, 0);
        CostsAge twin = Shop.of(4, 2610, 0, 0, 2620, 0);
        twin.thing(0, 0);
        Shop.passWeeks(twin, 4);
        // A TWIN of WEEK 4 is 11, and asks half of FEE 18.
        restIs(twin, 18, 0);
    }

    private static void earnsNotOfOwn() {
        CostsAge x = Shop.of(0, 2610, 70, 0, 2690, 0);
        Shop.things(x, 0, 0);
        x.set(3, 0, 0);
        x.set(3, 1, 0);
        restIs(x, 7, 0);
        x.set(3, 1, -1);
        restIs(x, 20, 0);
        x.set(3, 1, 1);
        restIs(x, 20, 0);
        // What is OWN is without ASKS: 0 must stay below 13 for the other's.
        x.set(0, 1, 13);
        restIs(x, 3, 0);
    }

    private static void fourRounds() {
        CostsAge x = Shop.of(0, 2610, 180, 0, 2610, 170);
        x.thing(0, 0);
        // 17 16, 16 15, 15 14, 14 13.
        restIs(x, 14, 13);
        x.set(1, 0, 5);
        x.set(1, 1, 4);
        // 4 3, 3 2, 2 1, and 1; by 0 one EARNS no more than by 1.
        restIs(x, 1, 1);
        x.set(1, 0, 6);
        x.set(1, 1, 5);
        restIs(x, 2, 1);
        CostsAge three = Shop.of(0, 2610, 200, 0, 2610, 200, 0, 2610, 200);
        three.thing(0, 0);
        // 20 19 18, 18 17 16, 16 15 14, 14 13 12.
        restIs(three, 14, 13, 12);
    }

    private static void feesToTwenty() {
        CostsAge x = Shop.of(0, 2610, 0, 0, 2629, 0);
        x.thing(0, 0);
        restIs(x, 19, 0);
        x.set(0, 1, 30);
        restIs(x, 20, 0);
        x.set(0, 1, 99);
        restIs(x, 20, 0);
        x.set(0, 1, 10);
        restIs(x, 0, 0);
        CostsAge zero = Shop.of(5, 2662, 209, 0, 2663, 0);
        zero.thing(0, 0);
        // A WIDOW of 62 YEARS and NUMBER 9 is 52: by FEE 0 it asks 9, by 1 it is 63.
        restIs(zero, 1, 0);
        zero.set(0, 1, 62);
        restIs(zero, 0, 0);
        Shop.rule(zero, "20 < fee or fee = 20", "0", "0");
        zero.set(0, 1, 99);
        restIs(zero, 20, 0);
    }

    private static void leastOfLikeFees() {
        CostsAge child = Shop.of(1, 2610, 0, 0, 2615, 0);
        child.thing(0, 0);
        // Half of 10 and of 11 are 5.
        restIs(child, 10, 0);
        CostsAge two = Shop.of(0, 2610, 0, 0, 2620, 0, 0, 2615, 990);
        Shop.things(two, 0, 0);
        two.set(3, 1, 2);
        // By 10 one THING is 10, by 5 two are 10.
        restIs(two, 5, 0, 99);
        CostsAge text = Shop.of(0, 2610, 0);
        Shop.things(text, 0, 0, 0, 5);
        Shop.rule(text, "fee < 6 or size = 5", "0", "0");
        // By 20 one THING is 20, by 5 four are 20.
        restIs(text, 5);
        CostsAge baby = Shop.of(3, 2610, 90, 0, 2625, 0);
        baby.thing(0, 0);
        // By 0 and by 1 a BABY asks 5.
        restIs(baby, 0, 0);
    }

    private static void onlyIfMore() {
        CostsAge x = Shop.of(0, 2610, 200);
        x.thing(0, 0);
        restIs(x, 20);
        x.set(1, 0, 21);
        restIs(x, 21);
        x.set(1, 0, 99);
        restIs(x, 99);
        x.set(1, 0, 19);
        restIs(x, 20);
        x.buyer(0, 2615, 0);
        x.set(1, 0, 99);
        restIs(x, 5, 0);
        CostsAge child = Shop.of(1, 2610, 110, 0, 2615, 0);
        child.thing(0, 0);
        restIs(child, 11, 0);
        CostsAge nothing = Shop.of(0, 2690, 70, 0, 2610, 200);
        nothing.thing(0, 0);
        restIs(nothing, 7, 20);
    }

    private static void byNumbers() {
        CostsAge x = Shop.of(0, 2620, 50, 0, 2620, 100);
        x.thing(0, 0);
        // 0 takes 10 (like, and the first); 1 then 9; 9 8, 8 7, 7 6.
        restIs(x, 7, 6);
        CostsAge y = Shop.of(0, 2620, 100, 0, 2620, 50);
        y.thing(0, 0);
        // 0 takes 5; 1 then 4; 4 3, 3 2, 2 1.
        restIs(y, 2, 1);
    }

    private static void nobodyDid() {
        CostsAge x = Shop.of(0, 2620, 0, 0, 2610, 150);
        x.thing(0, 0);
        // 5 14, 4 13, 3 12, 2 11: the third, who never is BEST, ends nothing.
        restIs(x, 2, 11);
        x.buyer(0, 2699, 70);
        restIs(x, 2, 11, 7);
        CostsAge y = Shop.of(0, 2699, 70, 0, 2620, 0, 0, 2610, 150);
        y.thing(0, 0);
        restIs(y, 7, 2, 11);
        CostsAge still = Shop.of(0, 2620, 200, 0, 2699, 70);
        still.thing(0, 0);
        restIs(still, 20, 7);
    }

    private static void restIsRefused() {
        for (int buyer : new int[] {MIN, -1, 4, 7, MAX}) {
            Check.refused("rest(" + buyer + ")", Shop::busy, x -> x.rest(buyer), -2);
        }
        Check.due("nobody is there", new CostsAge().rest(0), -2);
        Check.asks("rest(3), the last one", Shop::busy, x -> x.rest(3), 2);
        Check.asks("rest(6), the last of seven", Shop::sevens, x -> x.rest(6), 7);
    }
}
