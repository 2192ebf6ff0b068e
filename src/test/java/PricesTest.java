/** Promises 9 to 14: years, cost, best, when, buy, pass. */
public final class PricesTest {
    private PricesTest() {
    }

    public static void main(String[] args) {
        yearsInWeeks();
        yearsAreRefused();
        costs();
        costsAreRefused();
        bests();
        bestsAreRefused();
        whens();
        whensAreRefused();
        buys();
        buysAreRefused();
        free();
        buysNow();
        passes();
        Check.end();
    }

    private static void shop(CostsAge x) {
        x.buyer(0, 1030, 40);
        x.buyer(1, 509, 62);
        x.buyer(2, 2070, 35);
        x.buyer(3, 1, 13);
        x.thing(3, 100);
        x.thing(8, 20);
        x.thing(2, 5);
        x.thing(6, 900);
        x.set(3, 0, 1);
        x.set(3, 2, 0);
    }

    private static void shopWithOneBought(CostsAge x) {
        shop(x);
        x.buy(0, 4);
        x.image();
        Check.feed(x, "serves 1 1");
    }

    private static void yearsInWeeks() {
        CostsAge x = new CostsAge();
        x.buyer(0, 530, 0);
        x.buyer(0, 40, 0);
        x.buyer(0, 5198, 0);
        int[][] due = {{0, 0, 30}, {0, 4, 30}, {0, 5, 31}, {0, 56, 31}, {0, 57, 32}, {0, 103, 32},
            {1, 0, 40}, {1, 51, 40}, {1, 52, 41}, {1, 103, 41}, {2, 50, 98}, {2, 51, 99},
            {2, 102, 99}, {2, 103, 99}};
        for (int[] d : due) {
            Check.due("years(" + d[0] + ", " + d[1] + ")", x.years(d[0], d[1]), d[2]);
        }
        for (int i = 0; i < 5; i++) {
            x.pass();
        }
        Check.due("in the WEEK BORN: years(0, 0)", x.years(0, 0), 31);
        Check.due("in the WEEK BORN: years(0, 51)", x.years(0, 51), 31);
        Check.due("in the WEEK BORN: years(0, 52)", x.years(0, 52), 32);
        Check.due("over the year: years(1, 46)", x.years(1, 46), 40);
        Check.due("over the year: years(1, 47)", x.years(1, 47), 41);
        Check.due("over two years: years(1, 99)", x.years(1, 99), 42);
        Check.due("later in the year: years(2, 45)", x.years(2, 45), 98);
        Check.due("later in the year: years(2, 46)", x.years(2, 46), 99);
        Check.due("nothing truly passed", x.told(0, 1), 31);
    }

    private static void yearsAreRefused() {
        int[][] wrong = {{-1, 0}, {4, 0}, {0, -1}, {0, 104}, {Integer.MIN_VALUE, 0},
            {0, Integer.MAX_VALUE}};
        for (int[] w : wrong) {
            Check.refused("years(" + w[0] + ", " + w[1] + ")", PricesTest::shopWithOneBought,
                    x -> x.years(w[0], w[1]), -2);
        }
    }

    private static void costs() {
        CostsAge x = new CostsAge();
        shop(x);
        Check.due("OWN: no ASKS", x.cost(1, 1, 0), 9);
        Check.due("another's: with ASKS", x.cost(0, 1, 0), 34);
        Check.due("nobody's: with ASKS", x.cost(0, 2, 0), 34);
        Check.due("not served", x.cost(1, 2, 0), -5);
        Check.due("served behind a birthday", x.cost(1, 2, 5), 13);
        Check.due("not served ahead of it", x.cost(1, 2, 4), -5);
        Check.due("tied, one not OWN", x.cost(0, 5, 0), 34);
        x.set(3, 0, 0);
        Check.due("tied, all OWN", x.cost(0, 5, 0), 30);
        Check.due("a birthday's PENCE", x.cost(0, 5, 10), 31);
        Check.due("SIZES together 9", x.cost(3, 9, 0), -5);
        x.set(4, 0, 5);
        Check.due("SIZES just CARRY", x.cost(0, 5, 0), 30);
        x.set(4, 0, 0);
        Check.due("one alone has no CARRY", x.cost(0, 8, 0), 34);
        x.thing(0, 0);
        x.thing(0, 1);
        Check.due("SIZES of 0 with CARRY 0", x.cost(0, 48, 0), 34);
        CostsAge twin = new CostsAge();
        twin.buyer(4, 2609, 2);
        twin.thing(0, 0);
        int[] byWeek = {9, 9, 10, 9, 9, 9, 10};
        for (int n = 0; n < byWeek.length; n++) {
            Check.due("a TWIN in " + n, twin.cost(0, 1, n), byWeek[n]);
        }
        Check.due("a TWIN in 54", twin.cost(0, 1, 54), 11);
    }

    private static void costsAreRefused() {
        int[][] wrong = {{-1, 1, 0}, {4, 1, 0}, {0, 0, 0}, {0, 16, 0}, {0, 17, 0}, {0, -1, 0},
            {0, Integer.MIN_VALUE, 0}, {0, Integer.MIN_VALUE | 1, 0}, {0, 4, 0}, {0, 5, 0},
            {0, 3, 0}, {0, 10, 0}, {0, 1, -1}, {0, 1, 104}, {3, 2, 104}, {0, 1, Integer.MAX_VALUE}};
        for (int[] w : wrong) {
            Check.refused("cost(" + w[0] + ", " + w[1] + ", " + w[2] + ")",
                    PricesTest::shopWithOneBought, x -> x.cost(w[0], w[1], w[2]), -2);
        }
        Check.refused("cost(3, 2, 0)", PricesTest::shopWithOneBought, x -> x.cost(3, 2, 0), -5);
    }

    private static void bests() {
        CostsAge x = new CostsAge();
        shop(x);
        Check.due("best(1, 0, 0)", x.best(1, 0, 0), 1);
        Check.due("best(1, 0, 1)", x.best(1, 0, 1), 9);
        Check.due("best(2, 0, 0)", x.best(2, 0, 0), 0);
        Check.due("best(2, 0, 1)", x.best(2, 0, 1), 34);
        Check.due("best(2, 5, 0)", x.best(2, 5, 0), 1);
        Check.due("best(2, 5, 1)", x.best(2, 5, 1), 13);
        Check.due("best(5, 0, 0)", x.best(5, 0, 0), 3);
        Check.due("best(5, 0, 1)", x.best(5, 0, 1), 11);
        CostsAge like = new CostsAge();
        like.thing(8, 0);
        Check.due("nobody is there", like.best(1, 0, 0), -1);
        Check.due("nobody is there", like.best(1, 0, 1), -1);
        like.buyer(1, 2609, 0);
        Check.due("nobody can", like.best(1, 0, 0), -1);
        Check.due("nobody can", like.best(1, 0, 1), -1);
        like.buyer(0, 2620, 0);
        like.buyer(0, 2610, 90);
        like.buyer(0, 2611, 80);
        like.buyer(0, 2619, 0);
        Check.due("of like ones the first", like.best(1, 0, 0), 2);
        Check.due("their COST", like.best(1, 0, 1), 19);
        Check.due("in 26 WEEKS, by a birthday", like.best(1, 26, 0), 0);
        Check.due("in 26 WEEKS, by a birthday", like.best(1, 26, 1), 10);
    }

    private static void bestsAreRefused() {
        int[][] wrong = {{0, 0, 0}, {16, 0, 0}, {-1, 0, 0}, {4, 0, 0}, {5, 0, 0}, {3, 0, 0},
            {1, -1, 0}, {1, 104, 0}, {1, 0, -1}, {1, 0, 2}, {2, 0, 2}};
        for (int[] w : wrong) {
            Check.refused("best(" + w[0] + ", " + w[1] + ", " + w[2] + ")",
                    PricesTest::shopWithOneBought, x -> x.best(w[0], w[1], w[2]), -2);
        }
    }

    private static void whens() {
        CostsAge x = new CostsAge();
        x.buyer(1, 509, 0);
        x.thing(8, 20);
        x.thing(0, 0);
        Check.due("only behind a birthday", x.when(0, 0), 5);
        Check.due("only behind a birthday", x.when(0, 1), 10);
        Check.due("of like ones the first", x.when(1, 0), 0);
        Check.due("of like ones the first", x.when(1, 1), 9);
        Check.text(x, "serves week = 51; adds 0 - 40 + age; gains 0;");
        x.force(1);
        Check.due("one WEEK only", x.when(0, 0), 51);
        Check.due("one WEEK only", x.when(0, 1), 10);
        Check.text(x, "serves age = 11 and week = 51; adds 0; gains 0;");
        x.force(2);
        Check.due("n 103", x.when(0, 0), 103);
        Check.due("n 103", x.when(0, 1), 11);
        Check.text(x, "serves 1; adds 900 - week * 9 - (10 < age) * 200; gains 0;");
        x.force(3);
        Check.due("later is less", x.when(0, 0), 103);
        Check.due("later is less", x.when(0, 1), 252);
        Check.text(x, "serves age = 12; adds 0; gains 0;");
        x.force(4);
        Check.due("beyond n 103", x.when(0, 0), -1);
        Check.due("beyond n 103", x.when(0, 1), -1);
        x.buyer(0, 112, 0);
        Check.due("another BUYER then", x.when(0, 0), 0);
        CostsAge none = new CostsAge();
        none.thing(0, 0);
        Check.due("nobody is there", none.when(0, 0), -1);
    }

    private static void whensAreRefused() {
        int[][] wrong = {{-1, 0, -2}, {4, 0, -2}, {0, -1, -2}, {0, 2, -2}, {2, 2, -2}, {2, 0, -3},
            {2, 1, -3}, {Integer.MIN_VALUE, 0, -2}, {34, 0, -2}, {32, 0, -2}};
        for (int[] w : wrong) {
            Check.refused("when(" + w[0] + ", " + w[1] + ")", PricesTest::shopWithOneBought,
                    x -> x.when(w[0], w[1]), w[2]);
        }
    }

    private static void buys() {
        CostsAge x = new CostsAge();
        shop(x);
        Check.due("buy(0, 5), without ASKS", x.buy(0, 5), 30);
        Check.due("TILL", x.count(5), 30);
        Check.due("not BOUGHT", x.count(2), 2);
        Check.due("told(0, 10)", x.told(0, 10), 1);
        Check.due("told(1, 10)", x.told(1, 10), 0);
        Check.due("told(2, 10)", x.told(2, 10), 1);
        Check.due("OWN stays", x.told(0, 9), 1);
        Check.text(x, "serves 1; adds value; gains 0;");
        x.force(1);
        Check.due("buy(3, 2) with adds", x.buy(3, 2), 26);
        Check.due("TILL", x.count(5), 56);
        Check.due("buy(1, 8)", x.buy(1, 8), 909);
        Check.due("TILL", x.count(5), 965);
        Check.due("not BOUGHT", x.count(2), 0);
    }

    private static void buysAreRefused() {
        int[][] wrong = {{-1, 1, -2}, {4, 1, -2}, {0, 0, -2}, {0, 16, -2}, {0, -1, -2},
            {0, 4, -2}, {0, 5, -2}, {0, 3, -2}, {9, 2, -2}, {3, 4, -2}, {3, 2, -3}, {1, 2, -3}};
        for (int[] w : wrong) {
            Check.refused("buy(" + w[0] + ", " + w[1] + ")", PricesTest::shopWithOneBought,
                    x -> x.buy(w[0], w[1]), w[2]);
        }
    }

    /** A COST of 0 is one like others. */
    private static void free() {
        CostsAge x = new CostsAge();
        x.buyer(0, 2605, 0);
        x.buyer(0, 2600, 0);
        x.buyer(0, 2600, 0);
        x.buyer(0, 2604, 0);
        x.thing(0, 0);
        x.thing(0, 0);
        Check.due("cost(1, 1, 0)", x.cost(1, 1, 0), 0);
        Check.due("best(1, 0, 0)", x.best(1, 0, 0), 1);
        Check.due("best(1, 0, 1)", x.best(1, 0, 1), 0);
        Check.due("when(0, 0)", x.when(0, 0), 0);
        Check.due("when(0, 1)", x.when(0, 1), 0);
        x.set(1, 1, 3);
        Check.due("ASKS of one who pays 0", x.cost(1, 1, 0), 3);
        Check.due("buy(1, 1)", x.buy(1, 1), 0);
        Check.due("it is BOUGHT", x.told(0, 10), 1);
        CostsAge later = new CostsAge();
        later.buyer(0, 2600, 0);
        later.thing(0, 0);
        Check.text(later, "serves 1; adds 7 - week; gains 0;");
        later.force(1);
        Check.due("0 behind more", later.when(0, 0), 7);
        Check.due("0 behind more", later.when(0, 1), 0);
    }

    private static void buysNow() {
        CostsAge x = new CostsAge();
        x.buyer(0, 130, 0);
        x.thing(0, 0);
        Check.due("not by next WEEK's YEARS", x.buy(0, 1), 30);
    }

    private static void passes() {
        CostsAge x = new CostsAge();
        x.buyer(0, 130, 0);
        x.buyer(0, 98, 0);
        x.buyer(0, 5130, 0);
        Check.due("pass()", x.pass(), 1);
        Check.due("BORN in the new one", x.told(0, 1), 31);
        Check.due("others", x.told(1, 1), 98);
        for (int w = 2; w < 52; w++) {
            Check.due("pass()", x.pass(), w);
        }
        Check.due("BORN in 51", x.told(2, 1), 31);
        Check.due("THE YEAR", x.count(4), 0);
        Check.due("behind 51", x.pass(), 0);
        Check.due("THE YEAR", x.count(4), 1);
        Check.due("BORN in 0", x.told(1, 1), 99);
        Check.due("THE WEEK", x.count(3), 0);
        for (int i = 0; i < 52; i++) {
            x.pass();
        }
        Check.due("99 at most", x.told(1, 1), 99);
        Check.due("twice older", x.told(0, 1), 32);
        // Past what is promised of an object, but the only way to THE YEAR's end.
        CostsAge old = new CostsAge();
        for (int i = 0; i < 99 * 52; i++) {
            old.pass();
        }
        Check.due("THE YEAR", old.count(4), 99);
        for (int i = 0; i < 52; i++) {
            old.pass();
        }
        Check.due("THE YEAR, 99 at most", old.count(4), 99);
    }
}
