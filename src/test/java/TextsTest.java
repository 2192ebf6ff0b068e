/** Promises 6 to 8: feed, text, force; and what a TEXT is worth. */
public final class TextsTest {
    private static final String RULE = "serves size < 8 or 9 < age ; adds 0 ; gains value ;";

    private TextsTest() {
    }

    public static void main(String[] args) {
        feedCounts();
        feedIsRefused();
        textsCome();
        longTexts();
        theTapesEnd();
        noRoomForATextMore();
        faults();
        opensFive();
        forces();
        theFirstRule();
        sums();
        namesStandForThat();
        bounds();
        Check.end();
    }

    private static void feedCounts() {
        CostsAge x = new CostsAge();
        Check.due("feed(0)", x.feed(0), 1);
        Check.due("feed(255)", x.feed(255), 2);
        Check.due("count(8)", x.count(8), 2);
        for (int i = 3; i <= 160; i++) {
            Check.due("feed " + i, x.feed(32), i);
        }
        Check.due("feed 161", x.feed(32), -4);
        Check.due("count(8)", x.count(8), 160);
    }

    private static void feedIsRefused() {
        for (int letter : new int[] {-1, 256, Integer.MIN_VALUE, Integer.MAX_VALUE}) {
            Check.refused("feed(" + letter + ")", x -> Check.feed(x, "serves 1"),
                    x -> x.feed(letter), -2);
            Check.refused("full: feed(" + letter + ")", x -> Check.feed(x, " ".repeat(160)),
                    x -> x.feed(letter), -2);
        }
        Check.refused("full: feed(59)", x -> Check.feed(x, " ".repeat(160)), x -> x.feed(59), -4);
    }

    private static void textsCome() {
        CostsAge x = new CostsAge();
        Check.due("the first text", Check.text(x, RULE), 1);
        Check.due("the tape is empty", x.count(8), 0);
        Check.due("count(7)", x.count(7), 2);
        Check.due("no force by itself", x.count(9), 0);
        Check.due("a fault", Check.text(x, "serves ; "), -107);
        Check.due("the tape is empty by a fault, too", x.count(8), 0);
        Check.due("count(7) by a fault", x.count(7), 2);
        Check.due("the second text", Check.text(x, "serves 1;adds 2;gains 3;"), 2);
        Check.due("blanks", Check.text(x, " \n serves\n1 ;\n\n adds 2 ; gains 3 ; \n "), 3);
        Check.due("count(7)", x.count(7), 4);
    }

    private static void longTexts() {
        CostsAge x = new CostsAge();
        x.buyer(0, 2630, 0);
        x.thing(0, 0);
        for (int text = 1; text < 6; text++) {
            String ones = "serves 1;adds " + text + "+1".repeat(68) + ";gains 9;";
            Check.due("the size of a long text", ones.length(), 160);
            Check.due("a long text", Check.text(x, ones), text);
            x.force(text);
            Check.due("its adds", x.cost(0, 1, 0), 30 + text + 68);
            Check.due("its gains", x.gain(0, 0), 9 - 30 - text - 68);
        }
    }

    /** What an earlier text left behind a shorter one's end, or at the tape's, is not read. */
    private static void theTapesEnd() {
        CostsAge x = new CostsAge();
        Check.text(x, "serves 1;adds 1;gains 123456789;;;;;;;;");
        Check.due("ends in a NUMBER", Check.text(x, "serves 1;adds 1;gains 12"), -124);
        Check.text(x, "serves 1;adds 1;gains weekweekweek");
        Check.due("ends in a WORD", Check.text(x, "serves 1;adds 1;gains week"), -126);
        Check.text(x, "serves 1;adds 1;gains 1;;;;");
        Check.due("ends in a SIGN", Check.text(x, "serves 1;adds 1;gains 1;"), 1);
        String most = "serves 1;adds 1;gains 1" + " ".repeat(132);
        Check.due("a NUMBER at the end", Check.text(x, most + "+1234"), -260);
        Check.due("a WORD at the end", Check.text(x, most + "+week"), -260);
        Check.due("blanks at the end", Check.text(x, most + "     "), -260);
        Check.due("a SIGN at the end", Check.text(x, most + "    ;"), 2);
    }

    private static void fiveTextsMore(CostsAge x) {
        for (int i = 0; i < 5; i++) {
            Check.text(x, "serves 1;adds " + i + ";gains 3;");
        }
        x.force(3);
        x.buyer(0, 30, 0);
        x.thing(0, 0);
        Check.feed(x, "adds");
    }

    private static void noRoomForATextMore() {
        Check.refused("a seventh text", TextsTest::fiveTextsMore, CostsAge::text, -4);
        CostsAge x = new CostsAge();
        fiveTextsMore(x);
        Check.due("count(7)", x.count(7), 6);
        Check.due("text() of a fault", x.text(), -4);
        Check.due("the tape stays", x.count(8), 4);
        Check.due("text() again", x.text(), -4);
    }

    private static void fault(String text, int place) {
        CostsAge x = new CostsAge();
        x.buyer(0, 30, 0);
        x.thing(3, 3);
        Check.feed(x, text);
        Check.due("text() of \"" + text + "\"", x.text(), -100 - place);
        Check.due("the tape behind a fault", x.count(8), 0);
        Check.due("TEXTS behind a fault", x.count(7), 1);
        Check.due("THE RULE behind a fault", x.cost(0, 1, 0), 30);
    }

    private static void faults() {
        fault("", 0);
        fault("  \n ", 4);
        fault("adds 1;", 0);
        fault(" serve 1;", 1);
        fault("serves", 6);
        fault("serves  ", 8);
        fault("serves;", 6);
        fault("serves 1", 8);
        fault("serves 1;", 9);
        fault("serves 1; gains 1;", 10);
        fault("serves 1; adds 1; gains 1", 25);
        fault("serves 1; adds 1; gains 1;;", 26);
        fault("serves 1; adds 1; gains 1; serves", 27);
        fault("serves 1; adds 1; gains 1; ?", 27);
        fault("serves 1 2;", 9);
        fault("serves 1age;", 8);
        fault("serves 12345;", 7);
        fault("serves 00000;", 7);
        fault("serves 1+12345678901234567890;", 9);
        fault("serves ages;", 7);
        fault("serves ag;", 7);
        fault("serves Age;", 7);
        fault("serves aGe;", 7);
        fault("serves ageX;", 10);
        fault("serves\t1;", 6);
        fault("serves 1\r;", 8);
        fault("serves 1/2;", 8);
        fault("serves 1>2;", 8);
        fault("serves 1 , 2;", 9);
        fault("serves 1 < 2 < 3;", 13);
        fault("serves 1 = 2 < 3;", 13);
        fault("serves not 1 = 2 = 3;", 17);
        fault("serves 1 + not 2;", 11);
        fault("serves 1 < not 2;", 11);
        fault("serves - not 2;", 9);
        fault("serves 1 not 2;", 9);
        fault("serves 1 or;", 11);
        fault("serves or 1;", 7);
        fault("serves 1 and or 1;", 13);
        fault("serves 1 + ;", 11);
        fault("serves + 1;", 7);
        fault("serves 1 * * 1;", 11);
        fault("serves ();", 8);
        fault("serves (1;", 9);
        fault("serves (1", 9);
        fault("serves 1);", 8);
        fault("serves (1));", 10);
        fault("serves (1)(2);", 10);
        fault("serves adds;", 7);
        fault("serves serves;", 7);
        fault("serves gains 1;", 7);
        fault("serves 1; adds not; gains 1;", 18);
        fault("serves 1; adds 1; gains 1; 5", 27);
        fault("serves 1; adds 1; or 1;", 18);
        fault("serves 1; adds 1; adds 1;", 18);
        fault("serves 1; serves 1;", 10);
        fault("serves 1 gains 1;", 9);
        fault("serves 1 adds 1;", 9);
        fault("terves 1;", 0);
        fault("serve 1;", 0);
        fault("servesx 1;", 0);
        fault("serves 1; odds 1;", 10);
        fault("serves 1; adds 1; rains 1;", 18);
        for (String word : new String[] {"bge", "vize", "halue", "seek", "bee", "awn", "ogn",
            "siza", "valuee", "eek", "fe", "wn", "nut", "is", "end"}) {
            fault("serves 1 + " + word + ";", 11);
            fault("serves 1 " + word + " 1;", 9);
        }
        fault("serves 1; adds 1; gains \u00e9;", 24);
        fault("serves 1; adds 1; gains \u0000;", 24);
    }

    private static void opensFive() {
        String tail = "; adds 0; gains 0;";
        String[] good = {"(((((1)))))", "-----1", "not not not not not 1",
            "not -(not -1)", "not not not not not 1 and not not not not not 1",
            "-----1*-----1--1", "(((((1)))))+(((((1)))))", "not (((- 1 < - 2)))",
            "(((((1))))) * -1", "not not not not - 1 < - 1", "((((-1 - -1))))"};
        for (String e : good) {
            CostsAge x = new CostsAge();
            Check.due("text() of " + e, Check.text(x, "serves " + e + tail), 1);
        }
        fault("serves ((((((1))))))" + tail, 12);
        fault("serves ------1" + tail, 12);
        fault("serves not not not not not not 1" + tail, 27);
        fault("serves not not not not not (1)" + tail, 27);
        fault("serves not not not not not -1" + tail, 27);
        fault("serves not not not not not 1 < -1" + tail, 31);
        fault("serves (((((1 + -1)))))" + tail, 16);
        fault("serves (((((not 1)))))" + tail, 12);
        fault("serves -(-(-((1))))" + tail, 12);
        fault("serves not -(not -(1))" + tail, 18);
        fault("serves (((((1))))) + ((((((1))))))" + tail, 26);
    }

    private static void forces() {
        CostsAge x = new CostsAge();
        x.buyer(0, 30, 0);
        x.thing(3, 3);
        Check.text(x, "serves 1;adds 7;gains 3;");
        Check.text(x, "serves 0;adds 7;gains 3;");
        Check.due("force(1)", x.force(1), 0);
        Check.due("cost by 1", x.cost(0, 1, 0), 37);
        Check.due("force(2)", x.force(2), 1);
        Check.due("cost by 2", x.cost(0, 1, 0), -5);
        Check.due("force(2)", x.force(2), 2);
        Check.due("count(9)", x.count(9), 2);
        Check.due("force(0)", x.force(0), 2);
        Check.due("cost by 0", x.cost(0, 1, 0), 30);
        for (int text : new int[] {-1, 2, 6, Integer.MIN_VALUE}) {
            Check.refused("force(" + text + ")", y -> Check.text(y, "serves 1;adds 7;gains 3;"),
                    y -> y.force(text), -2);
        }
    }

    private static void theFirstRule() {
        CostsAge x = new CostsAge();
        x.buyer(0, 2609, 0);
        x.thing(7, 5);
        x.thing(8, 6);
        x.thing(9, 999);
        Check.due("9 years, size 7", x.cost(0, 1, 0), 9);
        Check.due("9 years, size 8", x.cost(0, 2, 0), -5);
        x.set(0, 0, 10);
        Check.due("10 years, size 8", x.cost(0, 2, 0), 10);
        Check.due("10 years, size 9", x.cost(0, 4, 0), 10);
        Check.due("gains value", x.gain(2, 0), 989);
        Check.due("gains less than COST", x.gain(0, 0), -5);
    }

    /** What an E is worth as adds, a bound holding it; the buyer has 30 years and no fee. */
    private static int worth(String e) {
        CostsAge x = new CostsAge();
        x.buyer(0, 2630, 0);
        x.thing(3, 400);
        Check.due("text() of " + e, Check.text(x, "serves 1;adds " + e + ";gains 3;"), 1);
        x.force(1);
        return x.cost(0, 1, 0) - 30;
    }

    private static void sums() {
        String[] es = {"7", "2+3*4", "(2+3)*4", "20-5-3", "20-(5-3)", "2*3*4-1", "- 2 + 5",
            "-2*-3", "--7", "3 - -4", "not 0", "not 5", "not not 5", "5 or 0", "0 or 0", "5 and 3",
            "5 and 0", "1 or 1 and 0", "(1 or 1) and 0", "not 0 and 0", "not (0 and 0)",
            "2 < 3", "3 < 3", "3 = 3", "3 = 4", "not 3 < 2", "not 3 = 3", "1 + 2 < 4", "1 + 3 < 4",
            "4 < 1 + 4", "(1 < 2) + 5", "0 - 1 < 0", "0007", "9999 * 9999 * 9999 + 0 < 0",
            "9999*9999*4", "0 or 0 or 3", "7 and 7 and 7", "-(2 - 9)", "(1 < 2) = 1", "1 and 2 = 2",
            "not 1 or 1", "0 and 0 or 1", "5 - 2 * 2", "100 - 1 * 2 + 3"};
        int[] due = {7, 14, 20, 12, 18, 23, 3, 6, 7, 7, 1, 0, 1, 1, 0, 1, 0, 1, 0, 0, 1, 1, 0, 1,
            0, 1, 0, 1, 0, 1, 6, 1, 7, 1, 999, 1, 1, 7, 1, 1, 1, 1, 1, 101};
        for (int i = 0; i < es.length; i++) {
            Check.due(es[i], worth(es[i]), due[i]);
        }
        Check.due("65536 * 65536 wraps to 0", worth("(4096*16)*(4096*16)"), 0);
        Check.due("wraps and adds", worth("(4096*16)*(4096*16)+5"), 5);
    }

    private static int addsOf(String e, int set, int n) {
        CostsAge x = new CostsAge();
        x.buyer(0, 230, 45);
        x.buyer(0, 2640, 51);
        x.thing(3, 400);
        x.thing(2, 30);
        x.thing(1, 7);
        x.set(3, 0, 0);
        x.set(3, 1, 0);
        x.set(3, 2, 1);
        for (int i = 0; i < 50; i++) {
            x.pass();
        }
        Check.text(x, "serves 1;adds " + e + ";gains 3;");
        int plain = x.cost(0, set, n);
        x.force(1);
        return x.cost(0, set, n) - plain;
    }

    private static void namesStandForThat() {
        Check.due("age now", addsOf("age", 1, 0), 31);
        Check.due("age behind a birthday", addsOf("age", 1, 4), 32);
        Check.due("age ahead of it", addsOf("age", 1, 3), 31);
        Check.due("size", addsOf("size", 1, 0), 3);
        Check.due("size of tied things", addsOf("size", 7, 0), 6);
        Check.due("value", addsOf("value", 2, 0), 30);
        Check.due("value of tied things", addsOf("value", 3, 0), 430);
        Check.due("week", addsOf("week", 1, 0), 50);
        Check.due("week in 1", addsOf("week", 1, 1), 51);
        Check.due("week in 2", addsOf("week", 1, 2), 0);
        Check.due("week in 103", addsOf("week", 1, 103), 49);
        Check.due("fee", addsOf("fee", 1, 0), 4);
        Check.due("own", addsOf("own", 1, 0), 1);
        Check.due("own of tied things", addsOf("own", 3, 0), 1);
        Check.due("not own", addsOf("own", 4, 0), 0);
        Check.due("not all own", addsOf("own", 5, 0), 0);
    }

    private static void bounds() {
        Check.due("999", worth("999"), 999);
        Check.due("1000", worth("1000"), 999);
        Check.due("0 - 1", worth("0 - 1"), 0);
        Check.due("-9999", worth("-9999"), 0);
        CostsAge x = new CostsAge();
        x.buyer(0, 30, 0);
        x.thing(3, 3);
        Check.text(x, "serves -1;adds 0;gains 1000;");
        Check.text(x, "serves 5;adds 0;gains 0-1;");
        Check.text(x, "serves 5-5;adds 0;gains 0-1;");
        x.force(1);
        Check.due("gains 1000", x.gain(0, 0), 969);
        x.force(2);
        Check.due("gains -1", x.gain(0, 0), -30);
        x.force(3);
        Check.due("serves 0", x.cost(0, 1, 0), -5);
    }
}
