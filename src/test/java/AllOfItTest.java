/** Promises 15 to 20: all, heap, eachOne, gain, year, rest. */
public final class AllOfItTest {
    private AllOfItTest() {
    }

    public static void main(String[] args) {
        allOfOneBuyer();
        allOfLikeWays();
        allOfNothing();
        allCantBe();
        allIsRefused();
        eachOne();
        gains();
        gainsAreRefused();
        years();
        rests();
        restsOfFeesInTexts();
        restsAreRefused();
        Check.end();
    }

    private static void shopWithOneBought(CostsAge x) {
        x.buyer(0, 1030, 40);
        x.buyer(1, 509, 62);
        x.buyer(3, 1, 13);
        x.thing(3, 100);
        x.thing(8, 20);
        x.thing(2, 5);
        x.thing(6, 900);
        x.set(3, 0, 1);
        x.buy(0, 4);
        x.image();
        x.pass();
        Check.feed(x, "serves 1 1");
    }

    private static void heaps(String what, CostsAge x, int... due) {
        for (int t = 0; t < due.length; t++) {
            Check.due(what + ": heap(" + t + ")", x.heap(t), due[t]);
        }
    }

    private static void allOfOneBuyer() {
        CostsAge x = new CostsAge();
        x.buyer(0, 30, 10);
        x.thing(4, 1);
        x.thing(5, 1);
        x.thing(6, 1);
        Check.due("two heaps", x.all(0), 62);
        Check.due("two heaps", x.all(1), 2);
        // 4 and 5 are 9 together; 6 goes with neither of them.
        heaps("two heaps", x, 3, 3, 4);
        x.set(4, 0, 8);
        Check.due("CARRY 8", x.all(0), 93);
        Check.due("CARRY 8", x.all(1), 3);
        heaps("CARRY 8", x, 1, 2, 4);
        x.set(4, 0, 15);
        Check.due("CARRY 15", x.all(0), 31);
        Check.due("CARRY 15", x.all(1), 1);
        heaps("CARRY 15", x, 7, 7, 7);
        x.set(4, 0, 11);
        Check.due("CARRY 11", x.all(1), 2);
        // {0 1} {2}, {0 2} {1} and {0} {1 2} cost the same: the least heap of thing 0.
        heaps("CARRY 11", x, 1, 6, 6);
        x.buy(0, 2);
        Check.due("one is BOUGHT", x.all(0), 31);
        heaps("one is BOUGHT", x, 5, -3, 5);
    }

    private static void allOfLikeWays() {
        CostsAge x = new CostsAge();
        x.buyer(0, 0, 0);
        for (int t = 0; t < 7; t++) {
            x.thing(1, 1);
        }
        Check.due("of no COST, fewest heaps", x.all(0), 0);
        Check.due("of no COST, fewest heaps", x.all(1), 1);
        heaps("of no COST", x, 127, 127, 127, 127, 127, 127, 127);
        x.set(4, 0, 3);
        Check.due("CARRY 3", x.all(1), 3);
        // Thing 0 alone leaves 3 and 3; of those the least heap of thing 1.
        heaps("CARRY 3", x, 1, 14, 14, 14, 112, 112, 112);
        x.set(4, 0, 4);
        Check.due("CARRY 4", x.all(1), 2);
        heaps("CARRY 4", x, 7, 7, 7, 120, 120, 120, 120);
        x.set(0, 0, 1);
        Check.text(x, "serves 1; adds size * size; gains 0;");
        x.force(1);
        x.set(4, 0, 63);
        // k things cost 1 and k * k: 7 heaps of one are 14.
        Check.due("adds by size", x.all(0), 14);
        Check.due("adds by size", x.all(1), 7);
        x.set(0, 0, 2);
        // One 3, two 6: two heaps of one, or one heap of two, are 6 alike; fewer heaps count.
        Check.due("like COST, fewest heaps", x.all(0), 21);
        Check.due("like COST, fewest heaps", x.all(1), 4);
        heaps("like COST, fewest heaps", x, 1, 6, 6, 24, 24, 96, 96);
    }

    private static void allOfNothing() {
        CostsAge x = new CostsAge();
        Check.due("nobody, nothing", x.all(0), 0);
        x.buyer(0, 30, 0);
        Check.due("nothing", x.all(0), 0);
        Check.due("nothing", x.all(1), 0);
        x.thing(0, 0);
        x.buy(0, 1);
        Check.due("all BOUGHT", x.all(0), 0);
        Check.due("all BOUGHT", x.all(1), 0);
        Check.due("all BOUGHT: heap(0)", x.heap(0), -3);
    }

    private static void allCantBe() {
        CostsAge x = new CostsAge();
        x.thing(0, 0);
        Check.due("nobody", x.all(0), -1);
        Check.due("nobody", x.all(1), -1);
        Check.due("nobody: heap(0)", x.heap(0), -1);
        x.buyer(1, 2609, 0);
        Check.due("one can", x.all(0), 9);
        x.thing(8, 0);
        Check.due("one can't", x.all(0), -1);
        Check.due("one can't", x.all(1), -1);
        heaps("one can't", x, -1, -1);
        // A heap that is served though none of it alone is.
        Check.text(x, "serves 7 < size; adds 0; gains 0;");
        x.force(1);
        Check.due("only tied", x.all(0), 9);
        Check.due("only tied", x.all(1), 1);
        heaps("only tied", x, 3, 3);
    }

    private static void allIsRefused() {
        for (int what : new int[] {-1, 2, Integer.MIN_VALUE}) {
            Check.refused("all(" + what + ")", AllOfItTest::shopWithOneBought,
                    x -> x.all(what), -2);
        }
        for (int thing : new int[] {-1, 4, 32, 34, Integer.MIN_VALUE}) {
            Check.refused("heap(" + thing + ")", AllOfItTest::shopWithOneBought,
                    x -> x.heap(thing), -2);
        }
        Check.refused("heap(2)", AllOfItTest::shopWithOneBought, x -> x.heap(2), -3);
    }

    private static void eachOne() {
        CostsAge x = new CostsAge();
        Check.due("of nothing", x.eachOne(), 0);
        x.thing(0, 10);
        Check.due("nobody", x.eachOne(), -1);
        x.buyer(0, 2610, 50);
        x.buyer(0, 2620, 10);
        Check.due("one thing", x.eachOne(), 15);
        x.thing(8, 0);
        Check.due("two things", x.eachOne(), 36);
        x.set(3, 1, 0);
        Check.due("the second is OWN to 0", x.eachOne(), 31);
        x.set(0, 1, 9);
        // 1 can't buy thing 1 now.
        Check.due("each by another", x.eachOne(), 20);
        x.set(3, 1, -1);
        x.set(3, 0, 0);
        Check.due("not by the cheaper one", x.eachOne(), 25);
        x.set(0, 0, 9);
        Check.due("nobody can buy thing 1", x.eachOne(), -1);
        x.set(0, 0, 10);
        x.thing(0, 0);
        Check.due("three things, two buyers", x.eachOne(), -1);
        x.buy(0, 1);
        Check.due("one is BOUGHT", x.eachOne(), 25);
        x.buy(0, 2);
        x.buy(0, 4);
        Check.due("all BOUGHT", x.eachOne(), 0);
    }

    private static void gains() {
        CostsAge x = new CostsAge();
        x.thing(8, 50);
        Check.due("nobody is there", x.gain(0, 0), CostsAge.NO);
        Check.due("nobody is there", x.gain(0, 1), CostsAge.NO);
        x.buyer(0, 2609, 0);
        Check.due("nobody can", x.gain(0, 0), CostsAge.NO);
        x.buyer(0, 2630, 10);
        Check.due("one can", x.gain(0, 0), 19);
        Check.due("one can", x.gain(0, 1), 1);
        x.buyer(0, 2631, 0);
        Check.due("of like ones the first", x.gain(0, 1), 1);
        x.buyer(0, 2610, 500);
        Check.due("below 0 is less", x.gain(0, 1), 1);
        Check.text(x, "serves 1; adds 0; gains age * 2 + own * 500;");
        x.force(1);
        Check.due("gains by a text", x.gain(0, 0), 31);
        Check.due("gains by a text", x.gain(0, 1), 2);
        x.set(3, 0, 3);
        Check.due("OWN gains", x.gain(0, 0), 510);
        Check.due("OWN gains", x.gain(0, 1), 3);
        Check.text(x, "serves age < 10; adds 100; gains 0;");
        x.force(2);
        Check.due("a loss", x.gain(0, 0), -109);
        Check.due("a loss", x.gain(0, 1), 0);
    }

    private static void gainsAreRefused() {
        int[][] wrong = {{-1, 0}, {4, 0}, {0, -1}, {0, 2}, {2, 0}, {2, 1}, {32, 0},
            {Integer.MIN_VALUE, 1}};
        for (int[] w : wrong) {
            Check.refused("gain(" + w[0] + ", " + w[1] + ")", AllOfItTest::shopWithOneBought,
                    x -> x.gain(w[0], w[1]), -4611686018427387904L);
        }
    }

    private static void years() {
        CostsAge x = new CostsAge();
        x.thing(8, 50);
        Check.due("nobody is there", x.year(), 0);
        x.buyer(1, 5109, 0);
        Check.due("in 51", x.year(), 10);
        x.pass();
        x.set(2, 0, 1);
        Check.due("not in 52", x.year(), 0);
        x.thing(0, 0);
        Check.due("nothing for those that nobody can", x.year(), 9);
        x.set(2, 0, 0);
        Check.due("together", x.year(), 19);
        x.buyer(0, 108, 10);
        Check.due("the least by any", x.year(), 19);
        x.set(0, 1, 7);
        Check.due("the least by any", x.year(), 18);
        x.buy(0, 2);
        Check.due("not of BOUGHT ones", x.year(), 10);
    }

    private static void rests() {
        CostsAge x = new CostsAge();
        x.buyer(0, 2610, 50);
        Check.due("of nothing", x.rest(0), 5);
        x.thing(0, 0);
        Check.due("alone", x.rest(0), 20);
        x.set(1, 0, 30);
        Check.due("one who earns more than by 20", x.rest(0), 30);
        x.set(1, 0, 20);
        Check.due("one who earns the same by 20", x.rest(0), 20);
        x.set(3, 0, 0);
        x.set(1, 0, 7);
        Check.due("what is OWN earns nothing", x.rest(0), 7);
        x.set(3, 0, -1);
        x.buyer(0, 2620, 0);
        // 0 may ask 10 at most: of like ones the first is BEST.
        Check.due("against another", x.rest(0), 10);
        Check.due("another", x.rest(1), 0);
        CostsAge y = new CostsAge();
        y.buyer(0, 2620, 0);
        y.buyer(0, 2610, 50);
        y.thing(0, 0);
        // The second one must be below the first.
        Check.due("the first", y.rest(0), 0);
        Check.due("the second", y.rest(1), 9);
        y.set(1, 1, 15);
        // The first takes 5, the second 14; then 4 and 13, 3 and 12, 2 and 11, and no more rounds.
        Check.due("the first", y.rest(0), 2);
        Check.due("the second", y.rest(1), 11);
        Check.due("fees stay", y.told(1, 3), 15);
        CostsAge child = new CostsAge();
        child.buyer(1, 2610, 0);
        child.thing(0, 0);
        child.thing(1, 0);
        Check.due("of like ones the least", child.rest(0), 20);
        child.buyer(0, 2615, 0);
        Check.due("half of 10 and of 11 are 5", child.rest(0), 10);
        child.buy(0, 1);
        child.buy(0, 2);
        Check.due("all BOUGHT", child.rest(0), 0);
    }

    private static void restsOfFeesInTexts() {
        CostsAge x = new CostsAge();
        x.buyer(0, 2610, 0);
        x.thing(0, 0);
        Check.text(x, "serves fee < 13; adds 0; gains 0;");
        Check.text(x, "serves 1; adds (fee = 20) * 900; gains 0;");
        x.force(1);
        Check.due("not served by a higher FEE", x.rest(0), 12);
        x.force(2);
        x.buyer(0, 2650, 0);
        Check.due("adds by a FEE", x.rest(0), 19);
        CostsAge rounds = new CostsAge();
        for (int b = 0; b < 3; b++) {
            rounds.buyer(0, 2610, 10 * (18 - b));
        }
        rounds.thing(0, 0);
        // 16 15 14, 14 13 12, 12 11 10, 10 9 8: each goes below the others, four times.
        int[] due = {10, 9, 8};
        for (int b = 0; b < 3; b++) {
            Check.due("four rounds at most: rest(" + b + ")", rounds.rest(b), due[b]);
        }
    }

    private static void restsAreRefused() {
        for (int buyer : new int[] {-1, 3, 7, Integer.MIN_VALUE}) {
            Check.refused("rest(" + buyer + ")", AllOfItTest::shopWithOneBought,
                    x -> x.rest(buyer), -2);
        }
    }
}
