/** The edges that the document names of PENCE, ASKS, COST and WEEKS: promises 9 to 14. */
public final class EdgesOfPricesTest {
    private static final int MIN = Integer.MIN_VALUE, MAX = Integer.MAX_VALUE;

    private EdgesOfPricesTest() {
    }

    public static void main(String[] args) {
        pence();
        asks();
        weeks();
        costs();
        bests();
        buys();
        Check.end();
    }

    private static void pence() {
        Check.sentence("PENCE: BUYER: y", EdgesOfPricesTest::penceOfBuyers);
        Check.sentence("CHILD: y, but 3 at least", EdgesOfPricesTest::penceOfChildren);
        Check.sentence("ELDER: half (cut) of what is above 60 less than a BUYER",
                EdgesOfPricesTest::penceOfElders);
        Check.sentence("BABY: twice a CHILD's", EdgesOfPricesTest::penceOfBabies);
        Check.sentence("TWIN: a CHILD's, and 1 in WEEKS that leave by 4 what NUMBER leaves",
                EdgesOfPricesTest::penceOfTwins);
        Check.sentence("WIDOW: NUMBER less than an ELDER", EdgesOfPricesTest::penceOfWidows);
        Check.sentence("(Both 0 at least, in the end.)", EdgesOfPricesTest::zeroAtLeast);
        Check.sentence("Quotients are cut toward 0", EdgesOfPricesTest::quotients);
    }

    private static void asks() {
        Check.sentence("ASKS: BUYER: f", () -> asksOf(0, 0, 0, 1, 1, 2, 2, 99, 99));
        Check.sentence("CHILD: half (cut) of a BUYER's",
                () -> asksOf(1, 0, 0, 1, 0, 2, 1, 3, 1, 99, 49));
        Check.sentence("ELDER as a BUYER", () -> asksOf(2, 0, 0, 1, 1, 3, 3, 99, 99));
        Check.sentence("BABY: 5 more than a CHILD",
                () -> asksOf(3, 0, 5, 1, 5, 2, 6, 3, 6, 99, 54));
        Check.sentence("TWIN as a CHILD", () -> asksOf(4, 0, 0, 1, 0, 2, 1, 3, 1, 99, 49));
        Check.sentence("WIDOW: twice an ELDER's, and NUMBER", EdgesOfPricesTest::asksOfWidows);
    }

    private static void weeks() {
        Check.sentence("YEARS IN n WEEKS (0 .. 103)", EdgesOfPricesTest::weeksAhead);
        Check.sentence("1 more for each of the next n WEEKS that is BORN",
                EdgesOfPricesTest::birthdays);
        Check.sentence("YEARS IN: (99 at most)", EdgesOfPricesTest::ninetyNineAtMost);
        Check.sentence("years: BAD", EdgesOfPricesTest::yearsAreRefused);
        Check.sentence("pass: behind 51 comes 0, and THE YEAR is 1 more",
                EdgesOfPricesTest::behindTheLast);
        Check.sentence("pass: those BORN in the new one are a year older",
                EdgesOfPricesTest::thoseBornInTheNewOne);
        Check.sentence("pass: THE WEEK", EdgesOfPricesTest::passTells);
    }

    private static void costs() {
        Check.sentence("COST: by YEARS IN them, and the WEEK that it is then",
                EdgesOfPricesTest::thenNotNow);
        Check.sentence("if one of them isn't OWN to that BUYER, ASKS",
                EdgesOfPricesTest::oneIsNotOwn);
        Check.sentence("one whom the shop doesn't serve so can't", EdgesOfPricesTest::cant);
        Check.sentence("TIED, if none is BOUGHT", EdgesOfPricesTest::noneIsBought);
        Check.sentence("TIED: it is one alone", EdgesOfPricesTest::oneAlone);
        Check.sentence("TIED: SIZES together are CARRY or less", EdgesOfPricesTest::carryOrLess);
        Check.sentence("cost: BAD", EdgesOfPricesTest::costIsRefused);
    }

    private static void bests() {
        Check.sentence("BEST: of like ones the first", EdgesOfPricesTest::firstOfLikeOnes);
        Check.sentence("BEST: NONE: nobody can", EdgesOfPricesTest::nobodyCan);
        Check.sentence("best: BAD, as of cost()", EdgesOfPricesTest::bestIsRefused);
        Check.sentence("WHEN: of n 0 .. 103", EdgesOfPricesTest::firstAndLastWeek);
        Check.sentence("WHEN: of like ones the first", EdgesOfPricesTest::firstOfLikeWeeks);
        Check.sentence("WHEN: NONE: by none", EdgesOfPricesTest::byNone);
        Check.sentence("WHEN: the least COST by any BUYER", EdgesOfPricesTest::byAnyBuyer);
        Check.sentence("when: BAD; STATE: it is BOUGHT", EdgesOfPricesTest::whenIsRefused);
    }

    private static void buys() {
        Check.sentence("buy: PENCE and adds, which the shop takes", EdgesOfPricesTest::shopTakes);
        Check.sentence("buy: truly buys things now", EdgesOfPricesTest::buysNow);
        Check.sentence("buy: BAD, as of cost()", EdgesOfPricesTest::buyIsRefused);
        Check.sentence("buy: STATE: one can't", EdgesOfPricesTest::buyerCant);
    }

    /** PENCE by YEARS, two by two, of a KIND with a NUMBER. */
    private static void penceOf(int kind, int number, int... yearsAndPence) {
        for (int i = 0; i < yearsAndPence.length; i += 2) {
            CostsAge x = Shop.of(kind, 2600 + yearsAndPence[i], 990 + number);
            x.thing(0, 0);
            x.set(3, 0, 0);
            String who = "KIND " + kind + ", " + yearsAndPence[i] + " YEARS";
            Check.due("PENCE of " + who, x.told(0, 5), yearsAndPence[i + 1]);
            Check.due("cost by " + who, x.cost(0, 1, 0), yearsAndPence[i + 1]);
            Check.due("buy by " + who, x.buy(0, 1), yearsAndPence[i + 1]);
        }
    }

    private static void penceOfBuyers() {
        penceOf(0, 9, 0, 0, 1, 1, 2, 2, 60, 60, 61, 61, 62, 62, 99, 99);
    }

    private static void penceOfChildren() {
        penceOf(1, 9, 0, 3, 1, 3, 2, 3, 3, 3, 4, 4, 62, 62, 99, 99);
    }

    private static void penceOfElders() {
        penceOf(2, 9, 0, 0, 2, 2, 59, 59, 60, 60, 61, 61, 62, 61, 63, 62, 64, 62, 98, 79, 99, 80);
    }

    private static void penceOfBabies() {
        penceOf(3, 9, 0, 6, 2, 6, 3, 6, 4, 8, 62, 124, 99, 198);
    }

    private static void penceOfTwins() {
        penceOf(4, 1, 0, 3, 2, 3, 3, 3, 4, 4, 99, 99);
        penceOf(4, 0, 0, 4, 2, 4, 3, 4, 4, 5, 99, 100);
        penceOf(4, 4, 0, 4);
        penceOf(4, 8, 0, 4);
        penceOf(4, 9, 0, 3);
        for (int number = 0; number < 10; number++) {
            CostsAge x = Shop.of(4, 2699, number);
            x.thing(0, 0);
            for (int w = 0; w < 56; w++) {
                int due = 99 + (w % 52 % 4 == number % 4 ? 1 : 0);
                Check.due("PENCE by " + number + ", " + w, x.told(0, 5), due);
                x.pass();
            }
            // It is WEEK 4 now: 47 on it is 51, 48 on it is 0.
            Check.due("in WEEK 51", x.cost(0, 1, 47), number % 4 == 3 ? 100 : 99);
            Check.due("in WEEK 0", x.cost(0, 1, 48), number % 4 == 0 ? 100 : 99);
            Check.due("in 103", x.cost(0, 1, 103), number % 4 == 3 ? 100 : 99);
        }
    }

    private static void penceOfWidows() {
        penceOf(5, 9, 60, 51, 61, 52, 62, 52, 99, 71, 10, 1);
        penceOf(5, 0, 0, 0, 60, 60, 62, 61, 99, 80);
    }

    private static void zeroAtLeast() {
        penceOf(5, 9, 0, 0, 8, 0, 9, 0, 10, 1);
        penceOf(5, 1, 0, 0, 1, 0, 2, 1);
        CostsAge x = Shop.of(5, 2600, 9);
        x.thing(0, 0);
        x.set(3, 0, 0);
        Shop.rule(x, "1", "5", "0");
        Check.due("adds to 0, not to less", x.cost(0, 1, 0), 5);
        Check.due("ASKS, FEE 0", Shop.of(0, 0, 9).told(0, 6), 0);
        Check.due("ASKS of a CHILD, FEE 0", Shop.of(1, 0, 9).told(0, 6), 0);
    }

    private static void quotients() {
        // Half of what a FEE of 1 or 19 asks, half of what 61 or 79 is above 60.
        penceOf(2, 0, 60, 60, 61, 61, 79, 70, 80, 70);
        asksOf(1, 1, 0, 19, 9, 20, 10);
        asksOf(4, 1, 0, 19, 9, 20, 10);
        asksOf(3, 1, 5, 19, 14, 20, 15);
    }

    /** ASKS by FEES, two by two, whatever the NUMBER is. */
    private static void asksOf(int kind, int... feesAndAsks) {
        for (int i = 0; i < feesAndAsks.length; i += 2) {
            for (int number = 0; number < 10; number += 9) {
                CostsAge x = Shop.of(kind, 2650, 10 * feesAndAsks[i] + number);
                x.thing(0, 0);
                String who = "KIND " + kind + ", FEE " + feesAndAsks[i];
                Check.due("ASKS of " + who, x.told(0, 6), feesAndAsks[i + 1]);
                Check.due("cost by " + who, x.cost(0, 1, 0), x.told(0, 5) + feesAndAsks[i + 1]);
            }
        }
    }

    private static void asksOfWidows() {
        int[][] due = {{0, 0, 0}, {0, 9, 9}, {1, 0, 2}, {1, 9, 11}, {99, 0, 198}, {99, 9, 207}};
        for (int[] d : due) {
            Check.due("ASKS by " + d[0] + ", " + d[1],
                    Shop.of(5, 2650, 10 * d[0] + d[1]).told(0, 6), d[2]);
        }
    }

    private static void weeksAhead() {
        CostsAge x = Shop.of(0, 2630, 0);
        x.thing(0, 0);
        for (int n : new int[] {0, 103}) {
            Check.due("years(0, " + n + ")", x.years(0, n), n == 0 ? 30 : 32);
            Check.due("cost(0, 1, " + n + ")", x.cost(0, 1, n), n == 0 ? 30 : 32);
            Check.due("best(1, " + n + ", 1)", x.best(1, n, 1), n == 0 ? 30 : 32);
        }
        for (int n : new int[] {MIN, -1, 104, MAX}) {
            Check.refused("years(0, " + n + ")", Shop::busy, y -> y.years(0, n), -2);
            Check.refused("cost(0, 1, " + n + ")", Shop::busy, y -> y.cost(0, 1, n), -2);
            Check.refused("best(1, " + n + ", 0)", Shop::busy, y -> y.best(1, n, 0), -2);
        }
    }

    private static void birthdays() {
        for (int week = 0; week < 52; week += 17) {
            for (int born = 0; born < 52; born++) {
                CostsAge x = Shop.of(0, 100 * born + 30, 0);
                Shop.passWeeks(x, week);
                int age = x.told(0, 1);
                int w = week;
                for (int n = 0; n <= 103; n++) {
                    Check.due("BORN " + born + ", WEEK " + week + ": years(0, " + n + ")",
                            x.years(0, n), age);
                    w = (w + 1) % 52;
                    age += w == born ? 1 : 0;
                }
            }
        }
        CostsAge x = Shop.of(0, 30, 0, 0, 130, 0, 0, 5130, 0);
        int[][] due = {{0, 0, 30}, {0, 51, 30}, {0, 52, 31}, {0, 103, 31}, {1, 0, 30}, {1, 1, 31},
            {1, 52, 31}, {1, 53, 32}, {1, 103, 32}, {2, 50, 30}, {2, 51, 31}, {2, 102, 31},
            {2, 103, 32}};
        for (int[] d : due) {
            Check.due("years(" + d[0] + ", " + d[1] + ")", x.years(d[0], d[1]), d[2]);
        }
        x.set(2, 1, 0);
        Check.due("by another BORN", x.years(1, 51), 30);
    }

    private static void ninetyNineAtMost() {
        CostsAge x = Shop.of(0, 197, 0, 0, 198, 0, 0, 199, 0);
        x.thing(0, 0);
        int[][] due = {{0, 1, 98}, {0, 53, 99}, {1, 0, 98}, {1, 1, 99}, {1, 53, 99}, {2, 1, 99},
            {2, 53, 99}, {2, 103, 99}};
        for (int[] d : due) {
            Check.due("years(" + d[0] + ", " + d[1] + ")", x.years(d[0], d[1]), d[2]);
            Check.due("cost(" + d[0] + ", 1, " + d[1] + ")", x.cost(d[0], 1, d[1]), d[2]);
        }
    }

    private static void yearsAreRefused() {
        int[][] wrong = {{MIN, 0}, {-1, 0}, {4, 0}, {7, 0}, {MAX, 0}, {0, MIN}, {0, -1}, {0, 104},
            {0, MAX}, {-1, 104}};
        for (int[] w : wrong) {
            Check.refused("years(" + w[0] + ", " + w[1] + ")", Shop::busy,
                    x -> x.years(w[0], w[1]), -2);
        }
        Check.asks("years(3, 103), the last one", Shop::busy, x -> x.years(3, 103), 11);
        Check.due("nobody is there", new CostsAge().years(0, 0), -2);
    }

    private static void behindTheLast() {
        CostsAge x = new CostsAge();
        for (int i = 1; i <= 156; i++) {
            Check.due("pass()", x.pass(), i % 52);
            Check.due("THE YEAR", x.count(4), i / 52);
        }
    }

    private static void thoseBornInTheNewOne() {
        CostsAge x = new CostsAge();
        for (int b = 0; b < 7; b++) {
            x.buyer(b % 6, b < 6 ? 110 : 210, 0);
        }
        x.pass();
        for (int b = 0; b < 7; b++) {
            Check.due("told(" + b + ", 1)", x.told(b, 1), b < 6 ? 11 : 10);
        }
        x.pass();
        for (int b = 0; b < 7; b++) {
            Check.due("told(" + b + ", 1)", x.told(b, 1), 11);
        }
        CostsAge zero = Shop.of(0, 10, 0, 0, 5110, 0);
        Shop.passWeeks(zero, 50);
        Check.due("BORN in 51, ahead of it", zero.told(1, 1), 10);
        zero.pass();
        Check.due("BORN in 51", zero.told(1, 1), 11);
        Check.due("BORN in 0, ahead of it", zero.told(0, 1), 10);
        zero.pass();
        Check.due("BORN in 0", zero.told(0, 1), 11);
        Check.due("BORN in 51, behind it", zero.told(1, 1), 11);
    }

    private static void passTells() {
        CostsAge x = new CostsAge();
        Check.due("pass()", x.pass(), 1);
        Check.due("count(3)", x.count(3), 1);
        CostsAge later = Shop.of(0, 110, 0);
        later.pass();
        later.buyer(0, 110, 0);
        Check.due("one who came in the WEEK BORN", later.told(1, 1), 10);
    }

    private static void thenNotNow() {
        CostsAge x = Shop.of(0, 5108, 0);
        x.thing(8, 0);
        x.thing(0, 0);
        Shop.passWeeks(x, 50);
        Check.due("8 YEARS, size 8", x.cost(0, 1, 0), -5);
        Check.due("9 YEARS, size 8", x.cost(0, 1, 52), -5);
        Check.due("10 YEARS, size 8", x.cost(0, 1, 53), 10);
        Check.due("by YEARS IN 1", x.cost(0, 2, 1), 9);
        Shop.rule(x, "not week = 51", "week", "0");
        Check.due("in 0, WEEK 50", x.cost(0, 2, 0), 58);
        Check.due("in 1, WEEK 51", x.cost(0, 2, 1), -5);
        Check.due("in 2, WEEK 0", x.cost(0, 2, 2), 9);
        Check.due("in 3, WEEK 1", x.cost(0, 2, 3), 10);
        Check.due("in 54, WEEK 0", x.cost(0, 2, 54), 10);
        Check.due("in 103, WEEK 49", x.cost(0, 2, 103), 59);
        Check.due("nothing passed", x.count(3), 50);
    }

    private static void oneIsNotOwn() {
        CostsAge x = Shop.of(0, 2630, 40, 0, 2640, 50);
        Shop.things(x, 0, 0, 0);
        Check.due("nobody's", x.cost(0, 7, 0), 34);
        x.set(3, 0, 0);
        Check.due("OWN", x.cost(0, 1, 0), 30);
        Check.due("another's", x.cost(1, 1, 0), 45);
        Check.due("OWN and nobody's", x.cost(0, 3, 0), 34);
        x.set(3, 1, 0);
        Check.due("OWN and OWN", x.cost(0, 3, 0), 30);
        x.set(3, 2, 1);
        Check.due("OWN, OWN and another's", x.cost(0, 7, 0), 34);
        Check.due("another's, another's and OWN", x.cost(1, 7, 0), 45);
        Check.due("the last one OWN", x.cost(1, 4, 0), 40);
        x.set(3, 2, 0);
        Check.due("all OWN", x.cost(0, 7, 0), 30);
        x.set(3, 0, 1);
        Check.due("the first one isn't", x.cost(0, 7, 0), 34);
    }

    private static void cant() {
        CostsAge x = Shop.of(0, 2609, 0, 0, 2610, 0);
        Shop.things(x, 7, 8);
        Check.asks("cost(0, 1, 0)", y -> tenAndNine(y), y -> y.cost(0, 1, 0), -5);
        Check.due("cost(0, 2, 0)", x.cost(0, 2, 0), -5);
        Check.due("cost(1, 2, 0)", x.cost(1, 2, 0), 10);
        x.set(4, 0, 63);
        Check.due("cost(0, 3, 0), tied", x.cost(0, 3, 0), -5);
        x.set(3, 1, 0);
        Check.due("cost(0, 2, 0) of what is OWN", x.cost(0, 2, 0), -5);
    }

    private static void tenAndNine(CostsAge x) {
        x.buyer(0, 2609, 0);
        x.thing(9, 0);
    }

    private static void noneIsBought() {
        CostsAge x = Shop.grown(1);
        Shop.things(x, 0, 0, 0);
        Check.due("cost(0, 7, 0)", x.cost(0, 7, 0), 10);
        x.buy(0, 2);
        for (int set : new int[] {2, 3, 6, 7}) {
            Check.due("cost(0, " + set + ", 0)", x.cost(0, set, 0), -2);
            Check.due("best(" + set + ", 0, 0)", x.best(set, 0, 0), -2);
            Check.due("buy(0, " + set + ")", x.buy(0, set), -2);
        }
        Check.due("cost(0, 5, 0)", x.cost(0, 5, 0), 10);
    }

    private static void oneAlone() {
        CostsAge x = Shop.grown(1);
        x.thing(9, 0);
        x.set(4, 0, 0);
        Check.due("cost(0, 1, 0), CARRY 0", x.cost(0, 1, 0), 10);
        Check.due("best(1, 0, 0), CARRY 0", x.best(1, 0, 0), 0);
        Check.due("all(0), CARRY 0", x.all(0), 10);
        Check.due("buy(0, 1), CARRY 0", x.buy(0, 1), 10);
    }

    private static void carryOrLess() {
        CostsAge x = Shop.grown(1);
        Shop.things(x, 9, 9, 9, 9, 9, 9, 9);
        x.set(4, 0, 62);
        Check.due("63, CARRY 62", x.cost(0, 127, 0), -2);
        Check.due("54, CARRY 62", x.cost(0, 63, 0), 10);
        x.set(4, 0, 63);
        Check.due("63, CARRY 63", x.cost(0, 127, 0), 10);
        x.set(4, 0, 18);
        Check.due("18, CARRY 18", x.cost(0, 65, 0), 10);
        x.set(4, 0, 17);
        Check.due("18, CARRY 17", x.cost(0, 65, 0), -2);
        Check.due("18, CARRY 17: best(65, 0, 0)", x.best(65, 0, 0), -2);
        Check.due("18, CARRY 17: buy(0, 65)", x.buy(0, 65), -2);
        CostsAge y = Shop.grown(1);
        Shop.things(y, 4, 5, 6, 0);
        Check.due("9, CARRY 9 at first", y.cost(0, 3, 0), 10);
        Check.due("10, CARRY 9 at first", y.cost(0, 5, 0), -2);
        Check.due("9 and 0, CARRY 9", y.cost(0, 11, 0), 10);
        y.set(4, 0, 0);
        Check.due("4 and 0, CARRY 0", y.cost(0, 9, 0), -2);
        y.thing(0, 0);
        Check.due("0 and 0, CARRY 0", y.cost(0, 24, 0), 10);
    }

    private static void costIsRefused() {
        // 4 BUYERS and 5 THINGS are there, THING 2 is BOUGHT; 0 and 1 are 11 together, CARRY 10.
        int[][] wrong = {{MIN, 1, 0}, {-1, 1, 0}, {4, 1, 0}, {MAX, 1, 0}, {0, 0, 0}, {0, 32, 0},
            {0, 33, 0}, {0, 64, 0}, {0, 128, 0}, {0, 256 + 1, 0}, {0, -1, 0}, {0, MIN, 0},
            {0, MIN + 1, 0}, {0, MAX, 0}, {0, 4, 0}, {0, 5, 0}, {0, 3, 0}, {0, 1, -1},
            {0, 1, 104}, {2, 2, 104}, {1, 4, 0}};
        for (int[] w : wrong) {
            Check.refused("cost(" + w[0] + ", " + w[1] + ", " + w[2] + ")", Shop::busy,
                    x -> x.cost(w[0], w[1], w[2]), -2);
        }
        Check.asks("cost(0, 9, 0)", Shop::busy, x -> x.cost(0, 9, 0), 38);
        Check.asks("cost(1, 2, 0), one can't", Shop::busy, x -> x.cost(1, 2, 0), -5);
        Check.asks("cost(3, 16, 103)", Shop::busy, x -> x.cost(3, 16, 103), 16);
    }

    private static void firstOfLikeOnes() {
        CostsAge x = new CostsAge();
        for (int b = 0; b < 7; b++) {
            x.buyer(0, 2620, 0);
        }
        x.thing(0, 0);
        for (int b = 0; b < 7; b++) {
            Check.due("best(1, 0, 0), like from " + b, x.best(1, 0, 0), b);
            Check.due("best(1, 0, 1)", x.best(1, 0, 1), 20);
            x.set(0, b, 21);
        }
        Check.due("best(1, 0, 0), like again", x.best(1, 0, 0), 0);
        x.set(0, 6, 0);
        Check.due("best(1, 0, 0), the last is least", x.best(1, 0, 0), 6);
        Check.due("best(1, 0, 1), of no COST", x.best(1, 0, 1), 0);
    }

    private static void nobodyCan() {
        CostsAge x = new CostsAge();
        x.thing(8, 0);
        for (int b = 0; b < 8; b++) {
            Check.due("best(1, 0, 0)", x.best(1, 0, 0), -1);
            Check.due("best(1, 0, 1)", x.best(1, 0, 1), -1);
            x.buyer(0, 2609, 0);
        }
        x.set(0, 6, 10);
        Check.due("the last one can", x.best(1, 0, 0), 6);
        Check.due("the last one can", x.best(1, 0, 1), 10);
        Check.asks("best(2, 0, 0)", y -> {
            Shop.busy(y);
            y.set(0, 0, 0);
            y.set(0, 2, 9);
        }, y -> y.best(2, 0, 0), -1);
    }

    private static void bestIsRefused() {
        int[][] wrong = {{0, 0, 0}, {32, 0, 0}, {33, 0, 1}, {128, 0, 0}, {-1, 0, 0}, {MIN, 0, 0},
            {MAX, 0, 1}, {4, 0, 0}, {5, 0, 0}, {3, 0, 0}, {1, -1, 0}, {1, 104, 0}, {1, 0, -1},
            {1, 0, 2}, {1, 0, MIN}, {1, 0, MAX}};
        for (int[] w : wrong) {
            Check.refused("best(" + w[0] + ", " + w[1] + ", " + w[2] + ")", Shop::busy,
                    x -> x.best(w[0], w[1], w[2]), -2);
        }
        CostsAge nobody = new CostsAge();
        nobody.thing(0, 0);
        Check.due("nobody can, and what is BAD", nobody.best(1, 0, 2), -2);
        Check.due("nobody can, and n is BAD", nobody.best(1, 104, 0), -2);
        Check.due("nobody can, and no things", nobody.best(2, 0, 0), -2);
        Check.asks("best(9, 0, 0)", Shop::busy, x -> x.best(9, 0, 0), 0);
        Check.asks("best(9, 103, 1)", Shop::busy, x -> x.best(9, 103, 1), 16);
    }

    private static void when(CostsAge x, int n, int cost) {
        Check.due("when(0, 0)", x.when(0, 0), n);
        Check.due("when(0, 1)", x.when(0, 1), cost);
    }

    private static void firstAndLastWeek() {
        CostsAge x = Shop.of(0, 5110, 0);
        x.thing(0, 0);
        Shop.rule(x, "age = 12", "0", "0");
        when(x, 103, 12);
        x.set(2, 0, 0);
        when(x, -1, -1);
        x.set(0, 0, 11);
        when(x, 52, 12);
        Shop.rule(x, "age = 11 and week = 0", "0", "0");
        when(x, 0, 11);
        Shop.rule(x, "age = 11 and week = 51", "0", "0");
        when(x, 51, 11);
        x.pass();
        when(x, 50, 11);
    }

    private static void firstOfLikeWeeks() {
        CostsAge x = Shop.of(0, 2699, 0);
        x.thing(0, 0);
        when(x, 0, 99);
        Shop.rule(x, "week = 3 or week = 7", "0", "0");
        when(x, 3, 99);
        Shop.passWeeks(x, 4);
        when(x, 3, 99);
        Shop.passWeeks(x, 4);
        when(x, 47, 99);
        Shop.rule(x, "1", "(9 - week) * (week < 10)", "0");
        // It is WEEK 8: 1 more; in WEEK 9 and in those from 10 on 0.
        when(x, 1, 99);
        x.set(0, 0, 0);
        when(x, 1, 0);
    }

    private static void byNone() {
        CostsAge x = new CostsAge();
        x.thing(8, 0);
        when(x, -1, -1);
        x.buyer(0, 2607, 0);
        when(x, -1, -1);
        x.buyer(0, 2608, 0);
        when(x, 78, 10);
        x.set(0, 1, 9);
        when(x, 26, 10);
        x.set(0, 1, 10);
        when(x, 0, 10);
    }

    private static void byAnyBuyer() {
        CostsAge x = Shop.of(0, 2640, 0, 0, 2650, 0, 0, 2620, 200);
        x.thing(0, 0);
        when(x, 0, 40);
        Shop.rule(x, "1", "100 - (age = 21) * 100 + (age < 21) * 500", "0");
        when(x, 26, 41);
        x.set(1, 1, 99);
        x.set(0, 1, 0);
        Shop.rule(x, "week = 5 and age < 30", "0", "0");
        // By the second it is 99 then, by the third 40.
        when(x, 5, 40);
        x.set(0, 2, 30);
        when(x, 5, 99);
    }

    private static void whenIsRefused() {
        // THING 2 is BOUGHT.
        int[][] wrong = {{MIN, 0, -2}, {-1, 0, -2}, {5, 0, -2}, {7, 0, -2}, {34, 0, -2},
            {MAX, 0, -2}, {0, -1, -2}, {0, 2, -2}, {0, MIN, -2}, {2, 2, -2}, {2, -1, -2},
            {2, 0, -3}, {2, 1, -3}, {5, 2, -2}};
        for (int[] w : wrong) {
            Check.refused("when(" + w[0] + ", " + w[1] + ")", Shop::busy,
                    x -> x.when(w[0], w[1]), w[2]);
        }
        Check.refused("BOUGHT, and nobody can", x -> {
            Shop.busy(x);
            x.text();
            Shop.rule(x, "0", "0", "0");
        }, x -> x.when(2, 0), -3);
        Check.asks("when(4, 0), the last one", Shop::busy, x -> x.when(4, 0), 48);
    }

    private static void shopTakes() {
        CostsAge x = Shop.of(0, 2630, 40, 5, 2600, 99);
        Shop.things(x, 1, 2, 3);
        Check.due("no ASKS", x.buy(0, 1), 30);
        Check.due("TILL", x.count(5), 30);
        Shop.rule(x, "1", "size * 10", "0");
        Check.due("0 PENCE, and adds of what is tied", x.buy(1, 6), 50);
        Check.due("TILL", x.count(5), 80);
        CostsAge most = Shop.of(3, 2699, 990);
        Shop.things(most, 0, 0, 0, 0, 0, 0, 0);
        Shop.rule(most, "1", "9999", "0");
        for (int t = 0; t < 7; t++) {
            Check.due("the most", most.buy(0, 1 << t), 198 + 999);
        }
        Check.due("the most in TILL", most.count(5), 7 * 1197);
        CostsAge free = Shop.of(0, 2600, 0);
        Shop.things(free, 0);
        Check.due("for nothing", free.buy(0, 1), 0);
        Check.due("it is BOUGHT", free.told(0, 10), 1);
        Check.due("TILL", free.count(5), 0);
    }

    private static void buysNow() {
        CostsAge x = Shop.of(0, 530, 0, 4, 2620, 0, 4, 2620, 3);
        Shop.things(x, 0, 0, 0, 0);
        Shop.passWeeks(x, 4);
        Check.due("YEARS now", x.buy(0, 1), 30);
        Check.due("a TWIN of WEEK 4", x.buy(1, 2), 21);
        Check.due("no TWIN of WEEK 3", x.buy(2, 4), 20);
        Shop.rule(x, "week = 4", "week", "0");
        Check.due("THE WEEK now", x.buy(0, 8), 34);
        for (int t = 0; t < 4; t++) {
            Check.due("told(" + t + ", 10)", x.told(t, 10), 1);
            Check.due("told(" + t + ", 9)", x.told(t, 9), -1);
        }
        Check.due("count(2)", x.count(2), 0);
    }

    private static void buyIsRefused() {
        int[][] wrong = {{MIN, 1}, {-1, 1}, {4, 1}, {MAX, 1}, {0, 0}, {0, 32}, {0, 33}, {0, 128},
            {0, -1}, {0, MIN}, {0, MIN + 1}, {0, MAX}, {0, 4}, {0, 5}, {0, 3}, {1, 4}, {4, 2}};
        for (int[] w : wrong) {
            Check.refused("buy(" + w[0] + ", " + w[1] + ")", Shop::busy,
                    x -> x.buy(w[0], w[1]), -2);
        }
        CostsAge x = Shop.grown(1);
        Shop.things(x, 5, 5);
        Check.due("too much to be tied", x.buy(0, 3), -2);
        Check.due("buy(0, 1)", x.buy(0, 1), 10);
        Check.due("once more", x.buy(0, 1), -2);
        Check.due("buy(0, 2)", x.buy(0, 2), 10);
    }

    private static void buyerCant() {
        Check.refused("buy(1, 2)", Shop::busy, x -> x.buy(1, 2), -3);
        Check.refused("buy(1, 18), tied", Shop::busy, x -> x.buy(1, 18), -3);
        Check.refused("size 8, 9 YEARS", x -> {
            x.buyer(0, 2609, 0);
            x.thing(8, 0);
        }, x -> x.buy(0, 1), -3);
        CostsAge x = Shop.of(0, 109, 0);
        x.thing(8, 0);
        Check.due("buy(0, 1)", x.buy(0, 1), -3);
        x.pass();
        Check.due("buy(0, 1) a WEEK later", x.buy(0, 1), 10);
    }
}
