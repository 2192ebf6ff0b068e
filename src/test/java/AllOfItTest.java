/** Promises 15 to 20: all, heap, eachOne, gain, year, rest. */
public final class AllOfItTest {
    private AllOfItTest() {
    }

    public static void main(String[] args) {
        allOfOneBuyer();
        allOfLikeWays();
        allOfNothing();
        allCantBe();
        allIsRefused();
        eachOne();
        gains();
        gainsAreRefused();
        years();
        rests();
        restsOfFeesInTexts();
        restsAreRefused();
        restsOfAll();
        heapAtOnce();
        free();
        allNow();
        Check.end();
    }

    private static void shopWithOneBought(CostsAge x) {
        x.buyer(0, 1030, 40);
        x.buyer(1, 509, 62);
        x.buyer(3, 1, 13);
        x.thing(3, 100);
        x.thing(8, 20);
        x.thing(2, 5);
        x.thing(6, 900);
        x.set(3, 0, 1);
        x.buy(0, 4);
        x.image();
        x.pass();
        Check.feed(x, "serves 1 1");
    }

    private static void heaps(String what, CostsAge x, int... due) {
        for (int t = 0; t < due.length; t++) {
            Check.due(what + ": heap(" + t + ")", x.heap(t), due[t]);
        }
    }

    private static void allOfOneBuyer() {
        CostsAge x = new CostsAge();
        x.buyer(0, 30, 10);
        x.thing(4, 1);
        x.thing(5, 1);
        x.thing(6, 1);
        Check.due("two heaps", x.all(0), 62);
        Check.due("two heaps", x.all(1), 2);
        // 4 and 5 are 9 together; 6 goes with neither of them.
        heaps("two heaps", x, 3, 3, 4);
        x.set(4, 0, 8);
        Check.due("CARRY 8", x.all(0), 93);
        Check.due("CARRY 8", x.all(1), 3);
        heaps("CARRY 8", x, 1, 2, 4);
        x.set(4, 0, 15);
        Check.due("CARRY 15", x.all(0), 31);
        Check.due("CARRY 15", x.all(1), 1);
        heaps("CARRY 15", x, 7, 7, 7);
        x.set(4, 0, 11);
        Check.due("CARRY 11", x.all(1), 2);
        // {0 1} {2}, {0 2} {1} and {0} {1 2} cost the same: the least heap of thing 0.
        heaps("CARRY 11", x, 1, 6, 6);
        x.buy(0, 2);
        Check.due("one is BOUGHT", x.all(0), 31);
        heaps("one is BOUGHT", x, 5, -3, 5);
    }

    private static void allOfLikeWays() {
        CostsAge x = new CostsAge();
        x.buyer(0, 0, 0);
        for (int t = 0; t < 7; t++) {
            x.thing(1, 1);
        }
        Check.due("of no COST, fewest heaps", x.all(0), 0);
        Check.due("of no COST, fewest heaps", x.all(1), 1);
        heaps("of no COST", x, 127, 127, 127, 127, 127, 127, 127);
        x.set(4, 0, 3);
        Check.due("CARRY 3", x.all(1), 3);
        // Thing 0 alone leaves 3 and 3; of those the least heap of thing 1.
        heaps("CARRY 3", x, 1, 14, 14, 14, 112, 112, 112);
        x.set(4, 0, 4);
        Check.due("CARRY 4", x.all(1), 2);
        heaps("CARRY 4", x, 7, 7, 7, 120, 120, 120, 120);
        x.set(0, 0, 1);
        Check.text(x, "serves 1; adds size * size; gains 0;");
        x.force(1);
        x.set(4, 0, 63);
        // k things cost 1 and k * k: 7 heaps of one are 14.
        Check.due("adds by size", x.all(0), 14);
        Check.due("adds by size", x.all(1), 7);
        heaps("adds by size", x, 1, 2, 4, 8, 16, 32, 64);
        x.set(0, 0, 2);
        // One 3, two 6: two heaps of one, or one heap of two, are 6 alike; fewer heaps count.
        Check.due("like COST, fewest heaps", x.all(0), 21);
        Check.due("like COST, fewest heaps", x.all(1), 4);
        heaps("like COST, fewest heaps", x, 1, 6, 6, 24, 24, 96, 96);
    }

    private static void allOfNothing() {
        CostsAge x = new CostsAge();
        Check.due("nobody, nothing", x.all(0), 0);
        x.buyer(0, 30, 0);
        Check.due("nothing", x.all(0), 0);
        Check.due("nothing", x.all(1), 0);
        x.thing(0, 0);
        x.buy(0, 1);
        Check.due("all BOUGHT", x.all(0), 0);
        Check.due("all BOUGHT", x.all(1), 0);
        Check.due("all BOUGHT: heap(0)", x.heap(0), -3);
    }

    private static void allCantBe() {
        CostsAge x = new CostsAge();
        x.thing(0, 0);
        Check.due("nobody", x.all(0), -1);
        Check.due("nobody", x.all(1), -1);
        Check.due("nobody: heap(0)", x.heap(0), -1);
        x.buyer(1, 2609, 0);
        Check.due("one can", x.all(0), 9);
        x.thing(8, 0);
        Check.due("one can't", x.all(0), -1);
        Check.due("one can't", x.all(1), -1);
        heaps("one can't", x, -1, -1);
        // A heap that is served though none of it alone is.
        Check.text(x, "serves 7 < size; adds 0; gains 0;");
        x.force(1);
        Check.due("only tied", x.all(0), 9);
        Check.due("only tied", x.all(1), 1);
        heaps("only tied", x, 3, 3);
    }

    private static void allIsRefused() {
        for (int what : new int[] {-1, 2, Integer.MIN_VALUE}) {
            Check.refused("all(" + what + ")", AllOfItTest::shopWithOneBought,
                    x -> x.all(what), -2);
        }
        for (int thing : new int[] {-1, 4, 32, 34, Integer.MIN_VALUE}) {
            Check.refused("heap(" + thing + ")", AllOfItTest::shopWithOneBought,
                    x -> x.heap(thing), -2);
        }
        Check.refused("heap(2)", AllOfItTest::shopWithOneBought, x -> x.heap(2), -3);
    }

    private static void eachOne() {
        CostsAge x = new CostsAge();
        Check.due("of nothing", x.eachOne(), 0);
        x.thing(0, 10);
        Check.due("nobody", x.eachOne(), -1);
        x.buyer(0, 2610, 50);
        x.buyer(0, 2620, 10);
        Check.due("one thing", x.eachOne(), 15);
        x.thing(8, 0);
        Check.due("two things", x.eachOne(), 36);
        x.set(3, 1, 0);
        Check.due("the second is OWN to 0", x.eachOne(), 31);
        x.set(0, 1, 9);
        // 1 can't buy thing 1 now.
        Check.due("each by another", x.eachOne(), 20);
        x.set(3, 1, -1);
        x.set(3, 0, 0);
        Check.due("not by the cheaper one", x.eachOne(), 25);
        x.set(0, 0, 9);
        Check.due("nobody can buy thing 1", x.eachOne(), -1);
        x.set(0, 0, 10);
        x.thing(0, 0);
        Check.due("three things, two buyers", x.eachOne(), -1);
        x.buy(0, 1);
        Check.due("one is BOUGHT", x.eachOne(), 25);
        x.buy(0, 2);
        x.buy(0, 4);
        Check.due("all BOUGHT", x.eachOne(), 0);
    }

    private static void gains() {
        CostsAge x = new CostsAge();
        x.thing(8, 50);
        Check.due("nobody is there", x.gain(0, 0), CostsAge.NO);
        Check.due("nobody is there", x.gain(0, 1), CostsAge.NO);
        x.buyer(0, 2609, 0);
        Check.due("nobody can", x.gain(0, 0), CostsAge.NO);
        x.buyer(0, 2630, 10);
        Check.due("one can", x.gain(0, 0), 19);
        Check.due("one can", x.gain(0, 1), 1);
        x.buyer(0, 2631, 0);
        Check.due("of like ones the first", x.gain(0, 1), 1);
        x.buyer(0, 2610, 500);
        Check.due("below 0 is less", x.gain(0, 1), 1);
        Check.text(x, "serves 1; adds 0; gains age * 2 + own * 500;");
        x.force(1);
        Check.due("gains by a text", x.gain(0, 0), 31);
        Check.due("gains by a text", x.gain(0, 1), 2);
        x.set(3, 0, 3);
        Check.due("OWN gains", x.gain(0, 0), 510);
        Check.due("OWN gains", x.gain(0, 1), 3);
        Check.text(x, "serves age < 10; adds 100; gains 0;");
        x.force(2);
        Check.due("a loss", x.gain(0, 0), -109);
        Check.due("a loss", x.gain(0, 1), 0);
    }

    private static void gainsAreRefused() {
        int[][] wrong = {{-1, 0}, {4, 0}, {0, -1}, {0, 2}, {2, 0}, {2, 1}, {32, 0},
            {Integer.MIN_VALUE, 1}};
        for (int[] w : wrong) {
            Check.refused("gain(" + w[0] + ", " + w[1] + ")", AllOfItTest::shopWithOneBought,
                    x -> x.gain(w[0], w[1]), -4611686018427387904L);
        }
    }

    private static void years() {
        CostsAge x = new CostsAge();
        x.thing(8, 50);
        Check.due("nobody is there", x.year(), 0);
        x.buyer(1, 5109, 0);
        Check.due("in 51", x.year(), 10);
        x.pass();
        x.set(2, 0, 1);
        Check.due("not in 52", x.year(), 0);
        x.thing(0, 0);
        Check.due("nothing for those that nobody can", x.year(), 9);
        x.set(2, 0, 0);
        Check.due("together", x.year(), 19);
        x.buyer(0, 108, 10);
        Check.due("the least by any", x.year(), 19);
        x.set(0, 1, 7);
        Check.due("the least by any", x.year(), 18);
        x.buy(0, 2);
        Check.due("not of BOUGHT ones", x.year(), 10);
    }

    private static void rests() {
        CostsAge x = new CostsAge();
        x.buyer(0, 2610, 50);
        Check.due("of nothing", x.rest(0), 5);
        x.thing(0, 0);
        Check.due("alone", x.rest(0), 20);
        x.set(1, 0, 30);
        Check.due("one who earns more than by 20", x.rest(0), 30);
        x.set(1, 0, 20);
        Check.due("one who earns the same by 20", x.rest(0), 20);
        x.set(3, 0, 0);
        x.set(1, 0, 7);
        Check.due("what is OWN earns nothing", x.rest(0), 7);
        x.set(3, 0, -1);
        x.buyer(0, 2620, 0);
        // 0 may ask 10 at most: of like ones the first is BEST.
        Check.due("against another", x.rest(0), 10);
        Check.due("another", x.rest(1), 0);
        CostsAge y = new CostsAge();
        y.buyer(0, 2620, 0);
        y.buyer(0, 2610, 50);
        y.thing(0, 0);
        // The second one must be below the first.
        Check.due("the first", y.rest(0), 0);
        Check.due("the second", y.rest(1), 9);
        y.set(1, 1, 15);
        // The first takes 5, the second 14; then 4 and 13, 3 and 12, 2 and 11, and no more rounds.
        Check.due("the first", y.rest(0), 2);
        Check.due("the second", y.rest(1), 11);
        Check.due("fees stay", y.told(1, 3), 15);
        CostsAge child = new CostsAge();
        child.buyer(1, 2610, 0);
        child.thing(0, 0);
        child.thing(1, 0);
        Check.due("of like ones the least", child.rest(0), 20);
        child.buyer(0, 2615, 0);
        Check.due("half of 10 and of 11 are 5", child.rest(0), 10);
        child.buy(0, 1);
        child.buy(0, 2);
        Check.due("all BOUGHT", child.rest(0), 0);
    }

    private static void restsOfFeesInTexts() {
        CostsAge x = new CostsAge();
        x.buyer(0, 2610, 0);
        x.thing(0, 0);
        Check.text(x, "serves fee < 13; adds 0; gains 0;");
        Check.text(x, "serves 1; adds (fee = 20) * 900; gains 0;");
        x.force(1);
        Check.due("not served by a higher FEE", x.rest(0), 12);
        x.force(2);
        x.buyer(0, 2650, 0);
        Check.due("adds by a FEE", x.rest(0), 19);
        CostsAge rounds = new CostsAge();
        for (int b = 0; b < 3; b++) {
            rounds.buyer(0, 2610, 10 * (18 - b));
        }
        rounds.thing(0, 0);
        // 16 15 14, 14 13 12, 12 11 10, 10 9 8: each goes below the others, four times.
        int[] due = {10, 9, 8};
        for (int b = 0; b < 3; b++) {
            Check.due("four rounds at most: rest(" + b + ")", rounds.rest(b), due[b]);
        }
    }

    private static void restsOfAll() {
        CostsAge x = new CostsAge();
        x.buyer(3, 2610, 90);
        x.buyer(0, 2625, 0);
        x.thing(0, 0);
        Check.due("a BABY asks 5 by 0 and by 1", x.rest(0), 0);
        CostsAge two = new CostsAge();
        two.buyer(0, 2610, 0);
        two.buyer(0, 2620, 0);
        two.buyer(0, 2615, 990);
        two.thing(0, 0);
        two.thing(0, 0);
        two.set(3, 1, 2);
        // By 10 one thing is 10, by 5 two are 10: the least FEE.
        Check.due("two by 5, or one by 10", two.rest(0), 5);
    }

    private static void heapAtOnce() {
        CostsAge x = new CostsAge();
        x.buyer(0, 30, 0);
        x.thing(1, 0);
        x.thing(1, 0);
        Check.due("heap() with no all() ahead", x.heap(1), 3);
        x.set(4, 0, 1);
        Check.due("heap() behind a change", x.heap(1), 2);
    }

    /** A COST of 0 is one like others. */
    private static void free() {
        CostsAge x = new CostsAge();
        x.buyer(0, 2605, 0);
        x.buyer(0, 2600, 0);
        x.buyer(0, 2604, 0);
        x.thing(0, 0);
        Check.due("all(0)", x.all(0), 0);
        Check.due("all(1)", x.all(1), 1);
        Check.due("heap(0)", x.heap(0), 1);
        Check.due("eachOne()", x.eachOne(), 0);
        Check.due("gain(0, 0)", x.gain(0, 0), 0);
        Check.due("gain(0, 1)", x.gain(0, 1), 1);
        Check.due("year()", x.year(), 0);
        x.buyer(0, 2600, 0);
        Check.due("gain(0, 1), of like ones the first", x.gain(0, 1), 1);
        x.thing(0, 0);
        Check.due("two things: eachOne()", x.eachOne(), 0);
        x.thing(0, 0);
        Check.due("three things: eachOne()", x.eachOne(), 4);
        Check.due("rest(1): another one is free too", x.rest(1), 0);
        Check.due("rest(3): another one is free too", x.rest(3), 0);
        x.set(0, 3, 9);
        Check.due("rest(1): up to the third one", x.rest(1), 4);
        CostsAge widow = new CostsAge();
        widow.buyer(5, 2603, 9);
        widow.thing(0, 5);
        Check.due("a WIDOW of 0 PENCE", widow.eachOne(), 9);
        widow.set(3, 0, 0);
        Check.due("a WIDOW of 0 PENCE", widow.gain(0, 0), 5);
        CostsAge gain = new CostsAge();
        gain.buyer(0, 2601, 0);
        gain.buyer(0, 2605, 0);
        gain.thing(0, 0);
        Check.due("of losses the least: gain(0, 1)", gain.gain(0, 1), 0);
        Check.due("of losses the least: gain(0, 0)", gain.gain(0, 0), -1);
    }

    /** Not by the YEARS, nor the WEEK, of the next one. */
    private static void allNow() {
        CostsAge x = new CostsAge();
        x.buyer(0, 130, 0);
        x.thing(0, 100);
        Check.due("all(0)", x.all(0), 30);
        Check.due("eachOne()", x.eachOne(), 30);
        Check.due("gain(0, 0)", x.gain(0, 0), 70);
        Check.due("year()", x.year(), 30);
        x.buyer(0, 2635, 0);
        Check.due("rest(0)", x.rest(0), 5);
        CostsAge y = new CostsAge();
        y.buyer(0, 130, 0);
        y.buyer(0, 2635, 0);
        y.thing(0, 0);
        y.set(1, 1, 20);
        y.set(0, 1, 10);
        Check.due("rest(1), below the first one's now", y.rest(1), 19);
    }

    private static void restsAreRefused() {
        for (int buyer : new int[] {-1, 3, 7, Integer.MIN_VALUE}) {
            Check.refused("rest(" + buyer + ")", AllOfItTest::shopWithOneBought,
                    x -> x.rest(buyer), -2);
        }
    }
}
