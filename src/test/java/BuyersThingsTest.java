/** Promises 1 to 5: a new object, buyer, thing, set, told. */
public final class BuyersThingsTest {
    private BuyersThingsTest() {
    }

    public static void main(String[] args) {
        aNewObject();
        buyersCome();
        buyersAreRefused();
        thingsCome();
        thingsAreRefused();
        setTells();
        setIsRefused();
        pence();
        asks();
        toldIsRefused();
        Check.end();
    }

    private static void aNewObject() {
        CostsAge x = new CostsAge();
        int[] due = {0, 0, 0, 0, 0, 0, 9, 1, 0, 0};
        for (int what = 0; what < due.length; what++) {
            Check.due("new: count(" + what + ")", x.count(what), due[what]);
        }
        Check.due("new: told(0, 0)", x.told(0, 0), -2);
        Check.due("new: told(0, 7)", x.told(0, 7), -2);
        Check.due("new: all(0)", x.all(0), 0);
        Check.due("new: all(1)", x.all(1), 0);
        Check.due("new: eachOne()", x.eachOne(), 0);
        Check.due("new: year()", x.year(), 0);
        Check.due("new: drawn(0)", x.drawn(0), -1);
        Check.due("new: back()", x.back(), -3);
        for (int s = 0; s < 4; s++) {
            Check.due("new: lies(" + s + ")", x.lies(s), -11);
        }
        CostsAge other = new CostsAge();
        other.buyer(0, 30, 0);
        other.pass();
        Check.due("another object's BUYERS", x.count(0), 0);
        Check.due("another object's WEEK", x.count(3), 0);
    }

    private static void buyersCome() {
        CostsAge x = new CostsAge();
        Check.due("the first buyer", x.buyer(5, 5199, 999), 0);
        Check.due("the second buyer", x.buyer(0, 0, 0), 1);
        Check.due("the third buyer", x.buyer(3, 5100, 40), 2);
        int[] first = {5, 99, 51, 99, 9};
        int[] second = {0, 0, 0, 0, 0};
        int[] third = {3, 0, 51, 4, 0};
        for (int what = 0; what < 5; what++) {
            Check.due("told(0, " + what + ")", x.told(0, what), first[what]);
            Check.due("told(1, " + what + ")", x.told(1, what), second[what]);
            Check.due("told(2, " + what + ")", x.told(2, what), third[what]);
        }
        for (int b = 3; b < 7; b++) {
            Check.due("buyer " + b, x.buyer(b - 2, 100 * b, b), b);
        }
        Check.due("count(0)", x.count(0), 7);
    }

    private static void threeBuyers(CostsAge x) {
        x.buyer(0, 1030, 40);
        x.buyer(1, 509, 62);
        x.buyer(4, 308, 41);
        x.thing(3, 100);
        x.thing(8, 20);
        x.set(3, 0, 1);
    }

    private static void sevenOfAll(CostsAge x) {
        for (int i = 0; i < 7; i++) {
            x.buyer(i % 6, 100 * i + 10 * i, 12 * i);
            x.thing(i, 100 * i);
        }
    }

    private static void buyersAreRefused() {
        int[][] wrong = {{-1, 0, 0}, {6, 0, 0}, {Integer.MIN_VALUE, 0, 0}, {0, -1, 0},
            {0, 5200, 0}, {0, Integer.MAX_VALUE, 0}, {0, 0, -1}, {0, 0, 1000},
            {0, 0, Integer.MIN_VALUE}};
        for (int[] w : wrong) {
            String call = "buyer(" + w[0] + ", " + w[1] + ", " + w[2] + ")";
            Check.refused(call, BuyersThingsTest::threeBuyers, x -> x.buyer(w[0], w[1], w[2]), -2);
            Check.refused("full: " + call, BuyersThingsTest::sevenOfAll,
                    x -> x.buyer(w[0], w[1], w[2]), -2);
        }
        Check.refused("an eighth buyer", BuyersThingsTest::sevenOfAll, x -> x.buyer(0, 0, 0), -4);
    }

    private static void thingsCome() {
        CostsAge x = new CostsAge();
        Check.due("the first thing", x.thing(9, 999), 0);
        Check.due("the second thing", x.thing(0, 0), 1);
        Check.due("told(0, 7)", x.told(0, 7), 9);
        Check.due("told(0, 8)", x.told(0, 8), 999);
        Check.due("told(1, 7)", x.told(1, 7), 0);
        Check.due("told(1, 8)", x.told(1, 8), 0);
        for (int t = 0; t < 2; t++) {
            Check.due("told(" + t + ", 9)", x.told(t, 9), -1);
            Check.due("told(" + t + ", 10)", x.told(t, 10), 0);
        }
        for (int t = 2; t < 7; t++) {
            Check.due("thing " + t, x.thing(t, t), t);
        }
        Check.due("count(1)", x.count(1), 7);
        Check.due("count(2)", x.count(2), 7);
    }

    private static void thingsAreRefused() {
        int[][] wrong = {{-1, 0}, {10, 0}, {0, -1}, {0, 1000}, {Integer.MIN_VALUE, 0},
            {0, Integer.MAX_VALUE}};
        for (int[] w : wrong) {
            String call = "thing(" + w[0] + ", " + w[1] + ")";
            Check.refused(call, BuyersThingsTest::threeBuyers, x -> x.thing(w[0], w[1]), -2);
            Check.refused("full: " + call, BuyersThingsTest::sevenOfAll,
                    x -> x.thing(w[0], w[1]), -2);
        }
        Check.refused("an eighth thing", BuyersThingsTest::sevenOfAll, x -> x.thing(0, 0), -4);
    }

    private static void setTells() {
        CostsAge x = new CostsAge();
        threeBuyers(x);
        Check.due("set(0, 1, 99)", x.set(0, 1, 99), 9);
        Check.due("set(0, 1, 0)", x.set(0, 1, 0), 99);
        Check.due("told(1, 1)", x.told(1, 1), 0);
        Check.due("set(1, 1, 99)", x.set(1, 1, 99), 6);
        Check.due("set(1, 1, 1)", x.set(1, 1, 1), 99);
        Check.due("told(1, 3)", x.told(1, 3), 1);
        Check.due("set(2, 1, 51)", x.set(2, 1, 51), 5);
        Check.due("set(2, 1, 0)", x.set(2, 1, 0), 51);
        Check.due("told(1, 2)", x.told(1, 2), 0);
        Check.due("set(3, 1, 2)", x.set(3, 1, 2), -1);
        Check.due("set(3, 1, 0)", x.set(3, 1, 0), 2);
        Check.due("told(1, 9)", x.told(1, 9), 0);
        Check.due("set(3, 1, -1)", x.set(3, 1, -1), 0);
        Check.due("told(1, 9)", x.told(1, 9), -1);
        Check.due("set(4, -77, 63)", x.set(4, -77, 63), 9);
        Check.due("set(4, 7, 0)", x.set(4, 7, 0), 63);
        Check.due("count(6)", x.count(6), 0);
        Check.due("others stay: told(0, 1)", x.told(0, 1), 30);
        Check.due("others stay: told(2, 3)", x.told(2, 3), 4);
        Check.due("others stay: told(0, 9)", x.told(0, 9), 1);
        x.buy(0, 1);
        Check.due("what is BOUGHT may be OWN to another", x.set(3, 0, 2), 1);
        Check.due("told(0, 9)", x.told(0, 9), 2);
    }

    private static void setIsRefused() {
        int[][] wrong = {{-1, 0, 0}, {5, 0, 0}, {0, -1, 0}, {0, 3, 0}, {0, 0, -1}, {0, 0, 100},
            {1, -1, 0}, {1, 3, 0}, {1, 0, -1}, {1, 0, 100}, {2, -1, 0}, {2, 3, 0}, {2, 0, -1},
            {2, 0, 52}, {3, -1, 0}, {3, 2, 0}, {3, 0, -2}, {3, 0, 3}, {4, 0, -1}, {4, 0, 64},
            {Integer.MIN_VALUE, 0, 0}, {3, 0, Integer.MIN_VALUE}};
        for (int[] w : wrong) {
            Check.refused("set(" + w[0] + ", " + w[1] + ", " + w[2] + ")",
                    BuyersThingsTest::threeBuyers, x -> x.set(w[0], w[1], w[2]), -2);
        }
    }

    /** One buyer's PENCE by a KIND, YEARS and a NUMBER. */
    private static int penceOf(int kind, int years, int number) {
        CostsAge x = new CostsAge();
        x.buyer(kind, years, number);
        return x.told(0, 5);
    }

    private static void pence() {
        int[][] due = {{0, 0, 0, 0}, {0, 99, 9, 99}, {0, 61, 9, 61}, {1, 0, 9, 3}, {1, 2, 0, 3},
            {1, 3, 0, 3}, {1, 4, 0, 4}, {1, 99, 0, 99}, {2, 1, 0, 1}, {2, 60, 0, 60},
            {2, 61, 0, 61}, {2, 62, 0, 61}, {2, 63, 0, 62}, {2, 99, 0, 80}, {3, 0, 0, 6},
            {3, 3, 0, 6}, {3, 4, 0, 8}, {3, 99, 0, 198}, {4, 1, 1, 3}, {4, 1, 0, 4}, {4, 1, 4, 4},
            {4, 9, 8, 10}, {4, 9, 9, 9}, {5, 9, 9, 0}, {5, 8, 9, 0}, {5, 10, 9, 1},
            {5, 70, 4, 61}, {5, 99, 9, 71}};
        for (int[] d : due) {
            Check.due("PENCE of kind " + d[0] + ", years " + d[1] + ", number " + d[2],
                    penceOf(d[0], d[1], d[2]), d[3]);
        }
        CostsAge x = new CostsAge();
        x.buyer(4, 5110, 7);
        int[] byWeek = {10, 10, 10, 11, 10, 10, 10, 11, 10};
        for (int w = 0; w < byWeek.length; w++) {
            Check.due("PENCE of a TWIN in WEEK " + w, x.told(0, 5), byWeek[w]);
            x.pass();
        }
    }

    private static void asks() {
        int[][] due = {{0, 0, 9, 0}, {0, 99, 0, 99}, {1, 0, 9, 0}, {1, 1, 0, 0}, {1, 7, 0, 3},
            {2, 7, 9, 7}, {3, 0, 0, 5}, {3, 1, 0, 5}, {3, 9, 7, 9}, {4, 9, 7, 4}, {5, 0, 0, 0},
            {5, 0, 9, 9}, {5, 9, 3, 21}, {5, 99, 9, 207}};
        for (int[] d : due) {
            CostsAge x = new CostsAge();
            x.buyer(d[0], 30, 10 * d[1] + d[2]);
            Check.due("ASKS of kind " + d[0] + ", fee " + d[1] + ", number " + d[2],
                    x.told(0, 6), d[3]);
        }
    }

    private static void toldIsRefused() {
        int[][] wrong = {{-1, 0}, {3, 0}, {3, 6}, {-1, 7}, {2, 7}, {2, 10}, {0, -1}, {0, 11},
            {0, Integer.MAX_VALUE}, {Integer.MIN_VALUE, 5}};
        for (int[] w : wrong) {
            Check.refused("told(" + w[0] + ", " + w[1] + ")", BuyersThingsTest::threeBuyers,
                    x -> x.told(w[0], w[1]), -2);
        }
    }
}
