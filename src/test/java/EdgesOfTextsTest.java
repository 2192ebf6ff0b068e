/** The edges that the document names of THE TAPE and of TEXTS: promises 6 to 8. */
public final class EdgesOfTextsTest {
    private static final int MIN = Integer.MIN_VALUE, MAX = Integer.MAX_VALUE;
    private static final String TAIL = ";adds 0;gains 0;";

    private EdgesOfTextsTest() {
    }

    public static void main(String[] args) {
        theTape();
        tokens();
        grammar();
        faults();
        texts();
        names();
        Check.end();
    }

    private static void theTape() {
        Check.sentence("THE TAPE (160 bytes at most)", EdgesOfTextsTest::tapeIsFull);
        Check.sentence("feed: A byte (0 .. 255): how many it has", EdgesOfTextsTest::bytes);
        Check.sentence("feed: BAD; FULL", EdgesOfTextsTest::badAheadOfFull);
        Check.sentence("THE TAPE is empty then", EdgesOfTextsTest::tapeIsEmptyThen);
    }

    private static void tokens() {
        Check.sentence("TOKENS, each as long as can be", EdgesOfTextsTest::longTokens);
        Check.sentence("WORDS (a .. z)", EdgesOfTextsTest::letters);
        Check.sentence("NUMBERS (digits, 4 at most)", EdgesOfTextsTest::digits);
        Check.sentence("SIGNS ( ) ; + - * < =", EdgesOfTextsTest::allBytes);
        Check.sentence("blanks (32, 10) may stand between", EdgesOfTextsTest::blanks);
    }

    private static void grammar() {
        Check.sentence("TEXT: serves E ; adds E ; gains E ;", EdgesOfTextsTest::threeParts);
        Check.sentence("E: AND { or AND }", EdgesOfTextsTest::ors);
        Check.sentence("AND: NOT { and NOT }", EdgesOfTextsTest::ands);
        Check.sentence("NOT: not NOT, or SUM, perhaps < or = and a SUM", EdgesOfTextsTest::nots);
        Check.sentence("SUM: TERM { + or - TERM }", EdgesOfTextsTest::sums);
        Check.sentence("TERM: ONE { * ONE }", EdgesOfTextsTest::terms);
        Check.sentence("ONE: a NUMBER, a NAME, - ONE, ( E )", EdgesOfTextsTest::ones);
        Check.sentence("NAMES are age size value week fee own", EdgesOfTextsTest::namesAreNoKeys);
        Check.sentence("An E is an int (32 bits, wrapping)", EdgesOfTextsTest::wraps);
        Check.sentence("of or, and, not, <, = 1 or 0", EdgesOfTextsTest::oneOrNothing);
        Check.sentence("what is not 0 is true", EdgesOfTextsTest::whatIsTrue);
    }

    private static void faults() {
        Check.sentence("the first TOKEN that can't stand there", EdgesOfTextsTest::firstToken);
        Check.sentence("the text's size, if it ends too early", EdgesOfTextsTest::endsTooEarly);
        Check.sentence("also of a byte that begins none", EdgesOfTextsTest::beginsNone);
        Check.sentence("a WORD that is neither KEY nor NAME", EdgesOfTextsTest::neither);
        Check.sentence("a NUMBER that is too long", EdgesOfTextsTest::tooLong);
        Check.sentence("a ( while 5 are open", EdgesOfTextsTest::sixParentheses);
        Check.sentence("a not while 5 are open", EdgesOfTextsTest::sixNots);
        Check.sentence("a - ahead of a ONE while 5 are open", EdgesOfTextsTest::sixMinuses);
        Check.sentence("a ( till its )", EdgesOfTextsTest::closed);
        Check.sentence("not and - till what they belong to ends", EdgesOfTextsTest::ended);
    }

    private static void texts() {
        Check.sentence("6 TEXTS at most, TEXT 0 with them", EdgesOfTextsTest::sixTexts);
        Check.sentence("text: FULL (ahead of all; THE TAPE stays)", EdgesOfTextsTest::textsAreFull);
        Check.sentence("text: -100 less the place of its FAULT", EdgesOfTextsTest::hundredLess);
        Check.sentence("force: A TEXT is THE RULE: which was", EdgesOfTextsTest::forces);
        Check.sentence("force: BAD", EdgesOfTextsTest::forceIsRefused);
        Check.sentence("TEXT 0, at first THE RULE", EdgesOfTextsTest::textZero);
    }

    private static void names() {
        Check.sentence("age: YEARS then", EdgesOfTextsTest::age);
        Check.sentence("SIZES together", EdgesOfTextsTest::size);
        Check.sentence("VALUES together", EdgesOfTextsTest::value);
        Check.sentence("week: the WEEK of it", EdgesOfTextsTest::week);
        Check.sentence("fee: FEE", EdgesOfTextsTest::fee);
        Check.sentence("own: 1, if the BUYER is whom it is OWN to", EdgesOfTextsTest::own);
        Check.sentence("serves: whether the shop serves one so (not 0)", EdgesOfTextsTest::serves);
        Check.sentence("adds (0 .. 999, else the bound)", EdgesOfTextsTest::adds);
        Check.sentence("gains (0 .. 999, else the bound)", EdgesOfTextsTest::gains);
    }

    /** What text() answers for a text on a new object; behind it the tape is empty. */
    private static int read(String text) {
        CostsAge x = new CostsAge();
        Check.feed(x, text);
        int answer = x.text();
        Check.due("the tape behind text() of " + text, x.count(8), 0);
        Check.due("TEXTS behind text() of " + text, x.count(7), answer < 0 ? 1 : 2);
        return answer;
    }

    private static void good(String text) {
        Check.due("text() of " + text, read(text), 1);
    }

    private static void fault(String text, int place) {
        Check.due("text() of " + text, read(text), -100 - place);
    }

    private static void goodE(String e) {
        good("serves " + e + TAIL);
    }

    /** The place is counted from the E's own first byte. */
    private static void faultE(String e, int place) {
        fault("serves " + e + TAIL, 7 + place);
    }

    /** Whether an E is true. */
    private static void truth(String e, boolean so) {
        CostsAge x = Shop.of(0, 2630, 0);
        x.thing(3, 400);
        Shop.rule(x, e, "0", "0");
        Check.due("cost by serves " + e, x.cost(0, 1, 0), so ? 30 : -5);
    }

    private static void worth(String e, int due) {
        truth("(" + e + ") = " + (due < 0 ? "0-" + -due : "" + due), true);
    }

    private static void tapeIsFull() {
        CostsAge x = new CostsAge();
        String text = "serves 1;adds 0;gains " + "1+".repeat(68) + "1;";
        Check.feed(x, text);
        Check.due("the size of the text", text.length(), 160);
        Check.due("count(8)", x.count(8), 160);
        Check.due("feed(59), the 161st", x.feed(59), -4);
        Check.due("feed(59) again", x.feed(59), -4);
        Check.due("count(8)", x.count(8), 160);
        Check.due("text() of 160 bytes", x.text(), 1);
        Check.refused("feed(59), the 161st", y -> Check.feed(y, text), y -> y.feed(59), -4);
        Check.due("the last byte in", read("serves 1;adds 0;gains " + "1+".repeat(69)), -260);
        CostsAge five = Shop.of(0, 2600, 0);
        five.thing(0, 0);
        for (int i = 1; i < 6; i++) {
            Check.due("a TEXT of 160 bytes", Check.text(five, text), i);
            five.force(i);
            Check.due("what it gains", five.gain(0, 0), 69);
        }
    }

    private static void bytes() {
        CostsAge x = new CostsAge();
        Check.due("count(8) at first", x.count(8), 0);
        for (int i = 0; i < 160; i++) {
            Check.due("feed " + i, x.feed(i < 80 ? i : 96 + i), i + 1);
            Check.due("count(8)", x.count(8), i + 1);
        }
        for (int letter : new int[] {MIN, -1, 256, 256 + 59, MAX}) {
            Check.refused("feed(" + letter + ")", Shop::busy, y -> y.feed(letter), -2);
        }
    }

    private static void badAheadOfFull() {
        for (int letter : new int[] {-1, 256}) {
            Check.refused("full: feed(" + letter + ")", x -> Check.feed(x, " ".repeat(160)),
                    x -> x.feed(letter), -2);
        }
        for (int letter : new int[] {0, 32, 255}) {
            Check.refused("full: feed(" + letter + ")", x -> Check.feed(x, " ".repeat(160)),
                    x -> x.feed(letter), -4);
        }
    }

    private static void tapeIsEmptyThen() {
        CostsAge x = new CostsAge();
        Check.due("a FAULT", Check.text(x, "serves 1; adds 2 gains 3;"), -117);
        Check.due("count(8) by a FAULT, too", x.count(8), 0);
        Check.due("feed() behind it", x.feed('s'), 1);
        Check.due("the rest of a text", Check.text(x, "erves 1;adds 2;gains 3;"), 1);
        Check.due("count(8)", x.count(8), 0);
        Check.due("nothing stands on it", x.text(), -100);
    }

    private static void longTokens() {
        goodE("1or 2and 3");
        goodE("age<5or 9<age");
        good("serves1;adds2;gains3;");
        faultE("agesize", 0);
        faultE("1age", 1);
        goodE("not1");
        faultE("not1age", 4);
        faultE("notage", 0);
        faultE("1 or2 2", 6);
        faultE("1 orage", 2);
        faultE("12 34", 3);
        faultE("ag e", 0);
        faultE("1 an d 1", 2);
        fault("servesage" + TAIL, 0);
        worth("1234", 1234);
    }

    private static void letters() {
        fault("serves " + (char) 96 + TAIL, 7);
        fault("serves " + (char) 123 + TAIL, 7);
        fault("serves AGE" + TAIL, 7);
        fault("serves agE" + TAIL, 7);
        fault("Serves 1" + TAIL, 0);
        faultE("a", 0);
        faultE("z", 0);
        faultE("1 a", 2);
        faultE("1 z", 2);
        fault("serves size" + (char) 96 + TAIL, 11);
        fault("serves size" + (char) 123 + TAIL, 11);
    }

    private static void digits() {
        worth("0", 0);
        worth("9", 9);
        worth("9999", 9999);
        worth("0000", 0);
        worth("0009", 9);
        faultE("10000", 0);
        faultE("00000", 0);
        faultE("1+99999", 2);
        faultE("12345678901234567890", 0);
        fault("serves " + (char) 47 + TAIL, 7);
        fault("serves " + (char) 58 + TAIL, 7);
    }

    /** Behind "serves 1" each byte, and "1" behind it. */
    private static void allBytes() {
        for (int c = 0; c < 256; c++) {
            String text = "serves 1" + (char) c + "1" + TAIL;
            if ("+-*<=0123456789".indexOf(c) >= 0) {
                good(text);
            } else if (c == 32 || c == 10 || c == ';') {
                fault(text, 9);
            } else {
                fault(text, 8);
            }
        }
        goodE("(1)");
        goodE("1+1-1*1<1");
        goodE("1=1");
    }

    private static void blanks() {
        good("serves 1;adds 0;gains 0;");
        good("\n serves\n\n1 \n ;\nadds  0\n;gains\n0 ; \n");
        goodE("( 1 ) + ( - 1 ) * age");
        good("serves not\n1 or\n\n1;adds 0;gains 0;");
        for (int c : new int[] {0, 9, 11, 13, 31, 33, 160}) {
            fault((char) c + "serves 1" + TAIL, 0);
            fault("serves" + (char) c + "1" + TAIL, 6);
            fault("serves 1" + TAIL + (char) c, 8 + TAIL.length());
        }
        fault("serv es 1" + TAIL, 0);
    }

    private static void threeParts() {
        good("serves 1;adds 2;gains 3;");
        fault("adds 2;serves 1;gains 3;", 0);
        fault("gains 3;", 0);
        fault("1;adds 2;gains 3;", 0);
        fault("serves 1;gains 3;adds 2;", 9);
        fault("serves 1;serves 1;adds 2;gains 3;", 9);
        fault("serves 1;adds 2;adds 2;gains 3;", 16);
        fault("serves 1;adds 2;serves 3;", 16);
        fault("serves 1;adds 2;3;", 16);
        fault("serves 1;;adds 2;gains 3;", 9);
        fault("serves ;adds 2;gains 3;", 7);
        fault("serves 1;adds ;gains 3;", 14);
        fault("serves 1;adds 2;gains ;", 22);
        fault("serves 1 adds 2;gains 3;", 9);
        fault("serves 1;adds 2 gains 3;", 16);
        fault("serves 1;adds 2;gains 3;;", 24);
        fault("serves 1;adds 2;gains 3;serves 1;adds 2;gains 3;", 24);
        for (String more : new String[] {"5", "age", "or", "not", "(", ")", "<", "-"}) {
            fault("serves 1;adds 2;gains 3;" + more, 24);
        }
        fault("serves 1;adds 2;gains 3", 23);
    }

    private static void ors() {
        goodE("1 or 0 or 1 or 0 or 1 or 0 or 1");
        faultE("1 or", 4);
        faultE("or 1", 0);
        faultE("1 or or 1", 5);
        faultE("1 or )", 5);
        worth("0 or 0 and 1", 0);
        worth("1 or 0 and 0", 1);
        worth("(1 or 0) and 0", 0);
        worth("0 or 0 or 0 or 4", 1);
    }

    private static void ands() {
        goodE("1 and 0 and 1 and 0 and 1 and 0 and 1");
        faultE("1 and", 5);
        faultE("and 1", 0);
        faultE("1 and and 1", 6);
        faultE("1 and or 1", 6);
        worth("1 and 2 and 3", 1);
        worth("1 and 2 and 0", 0);
        worth("0 and 1 or 1", 1);
        worth("0 and (1 or 1)", 0);
    }

    private static void nots() {
        goodE("not 1 < 2");
        goodE("not not 1 = 2");
        faultE("1 not 2", 2);
        faultE("not", 3);
        faultE("not < 1", 4);
        faultE("1 < not 1", 4);
        faultE("1 + not 1", 4);
        faultE("- not 1", 2);
        faultE("1 < 2 < 3", 6);
        faultE("1 < 2 = 3", 6);
        faultE("1 = 2 = 3", 6);
        faultE("1 <", 3);
        faultE("< 1", 0);
        faultE("1 = ;", 4);
        faultE("1 < = 1", 4);
        worth("not 2 < 1", 1);
        worth("(not 2) < 1", 1);
        worth("not 1 = 2", 1);
        worth("(not 1) = 2", 0);
        worth("not 0 and 0", 0);
        worth("not (0 and 0)", 1);
        worth("1 < 1", 0);
        worth("1 < 2", 1);
        worth("2 < 1", 0);
        worth("2 = 2", 1);
        worth("(1 < 2) < 2", 1);
    }

    private static void sums() {
        worth("9 - 5 - 3", 1);
        worth("9 - (5 - 3)", 7);
        worth("9 - 5 + 3", 7);
        worth("1 + 2 < 4", 1);
        worth("4 < 1 + 4", 1);
        worth("3 - 5", -2);
        faultE("1 +", 3);
        faultE("+ 1", 0);
        faultE("1 + + 1", 4);
        faultE("1 - ;", 4);
        goodE("1 - - 1");
    }

    private static void terms() {
        worth("2 + 3 * 4", 14);
        worth("2 * 3 + 4", 10);
        worth("(2 + 3) * 4", 20);
        worth("9 - 2 * 3", 3);
        worth("2 * 3 * 4", 24);
        faultE("1 *", 3);
        faultE("* 1", 0);
        faultE("1 * * 1", 4);
        goodE("1 * - 1");
        faultE("1 * not 1", 4);
    }

    private static void ones() {
        worth("-2", -2);
        worth("--2", 2);
        worth("-2 * -3", 6);
        worth("-2 + 3", 1);
        worth("-(2 + 3)", -5);
        worth("(((2)))", 2);
        faultE("()", 1);
        faultE("(1", 2);
        faultE("1)", 1);
        faultE("(1))", 3);
        faultE("(1 2)", 3);
        faultE("1 (2)", 2);
        faultE("(1)(2)", 3);
        faultE("-", 1);
        faultE("-;", 1);
        faultE("", 0);
    }

    private static void namesAreNoKeys() {
        String[] names = {"age", "size", "value", "week", "fee", "own"};
        String[] keys = {"serves", "adds", "gains", "or", "and"};
        for (String name : names) {
            goodE(name);
            faultE("1 " + name + " 1", 2);
            faultE(name + "s", 0);
            faultE(name.substring(1), 0);
            faultE(name.substring(0, name.length() - 1), 0);
            fault(name + " 1" + TAIL, 0);
        }
        for (String key : keys) {
            faultE(key, 0);
            faultE("1 + " + key, 4);
            faultE("(" + key + ")", 1);
        }
    }

    private static void wraps() {
        String two31 = "4096*16*4096*8";
        truth(two31 + " < 0", true);
        truth("0 < " + two31 + " - 1", true);
        truth("-(" + two31 + ") = " + two31, true);
        truth(two31 + " + " + two31 + " = 0", true);
        truth("0 - (" + two31 + ") < 0", true);
        truth(two31 + " * 2", false);
        truth(two31 + " * 2 + 1 = 1", true);
        // Not by the sign of what is taken off: 2^31 - 1 is above -1.
        truth(two31 + " - 1 < -1", false);
        truth(two31 + " < 1", true);
    }

    private static void oneOrNothing() {
        worth("5 or 7", 1);
        worth("0 or 7", 1);
        worth("7 or 0", 1);
        worth("0 or 0", 0);
        worth("5 and 7", 1);
        worth("2 and 4", 1);
        worth("0 and 7", 0);
        worth("7 and 0", 0);
        worth("not 7", 0);
        worth("not 0", 1);
        worth("not not 7", 1);
        worth("5 < 7", 1);
        worth("7 < 5", 0);
        worth("7 = 7", 1);
        worth("7 = 5", 0);
    }

    private static void whatIsTrue() {
        truth("-1", true);
        truth("1", true);
        truth("2", true);
        truth("0", false);
        truth("not -1", false);
        truth("-1 and -2", true);
        truth("0 or -1", true);
        truth("4096*16*4096*8", true);
    }

    private static void firstToken() {
        fault("serves 1 2 3 4;", 9);
        fault("serves 1 ? 12345 agge;", 9);
        fault("serves 12345 ?", 7);
        fault("serves 1;adds age size;gains 3;", 18);
        fault("serves 1;adds ((1);gains 3;", 18);
        fault("serves 1;adds 1;gains (1;", 24);
        fault("serves  \n  serves", 11);
        fault("serves 1 adds", 9);
    }

    private static void endsTooEarly() {
        String text = "serves size < 8 or 9 < age ; adds 0 ; gains not ( value - 7 ) ;";
        good(text);
        for (int size = 0; size < text.length(); size++) {
            int place = size;
            if (size > 0 && Character.isLetter(text.charAt(size))) {
                // A WORD is cut: what is left of it is neither KEY nor NAME.
                while (place > 0 && Character.isLetter(text.charAt(place - 1))) {
                    place--;
                }
            }
            fault(text.substring(0, size), place);
        }
        fault("", 0);
        fault(" ", 1);
        fault("serves 1 \n", 10);
        fault(" ".repeat(160), 160);
    }

    private static void beginsNone() {
        fault("?", 0);
        fault("serves ?", 7);
        fault("serves 1;?", 9);
        fault("serves 1;adds 2;gains 3;?", 24);
        fault("serves 1;adds 2;gains 3; ?", 25);
        faultE("1 ? 2", 2);
        faultE("(?)", 1);
        faultE("1 <> 2", 3);
        faultE("1 == 2", 3);
        faultE("1.5", 1);
        faultE("" + (char) 255, 0);
        faultE("" + (char) 0, 0);
    }

    private static void neither() {
        faultE("ages", 0);
        faultE("1 + years", 4);
        faultE("1 nor 2", 2);
        faultE("1 xor 2", 2);
        faultE("no 1", 0);
        fault("serve 1" + TAIL, 0);
        fault("serves 1;add 2;gains 3;", 9);
        fault("serves 1;adds 2;gain 3;", 16);
        fault("serves 1;adds 2;gains 3;end", 24);
    }

    private static void tooLong() {
        goodE("1234");
        faultE("12345", 0);
        faultE("(1 + 12345)", 5);
        faultE("1 12345", 2);
        fault("serves 1;12345 2;gains 3;", 9);
        fault("serves 1;adds 2;gains 3;12345", 24);
        goodE("1234 + 1234");
    }

    private static void sixParentheses() {
        goodE("(((((1)))))");
        faultE("((((((1))))))", 5);
        faultE("not not not not not (1)", 20);
        faultE("-----(1)", 5);
        faultE("not(-(not(1)))", 9);
        faultE("not -(not -(1))", 11);
        goodE("not -(not(1))");
        // The first not is open till all of its NOT ends.
        faultE("not(-(not 1))+((((((1))))))", 18);
        faultE("(-(not 1))+((((((1))))))", 16);
    }

    private static void sixNots() {
        goodE("not not not not not 1");
        faultE("not not not not not not 1", 20);
        faultE("(((((not 1)))))", 5);
        goodE("((((not 1))))");
        goodE("-(-(not 1))");
        faultE("-(not -(not 1))", 8);
    }

    private static void sixMinuses() {
        goodE("-----1");
        faultE("------1", 5);
        faultE("(((((-1)))))", 5);
        faultE("not not not not not -1", 20);
        faultE("(((((1 + -1)))))", 9);
        faultE("(((((1 * -1)))))", 9);
        faultE("(((((1 < -1)))))", 9);
        goodE("(((((1 - 1)))))");
        faultE("(((((1 - -1)))))", 9);
        goodE("((((1 - -1))))");
    }

    private static void closed() {
        goodE("(((((1))))) + (((((1)))))");
        goodE("(1) * (1) * (1) * (1) * (1) * (1) * (1)");
        goodE("((((1) + (1)) * (1)) - (1)) < ((((1))))");
        faultE("(((((1) + ((1))))))", 11);
        goodE("((((1)))) + -----1");
        good("serves (((((1)))));adds (((((1)))));gains (((((1)))));");
    }

    private static void ended() {
        goodE("-1 - -1 - -1 - -1 - -1 - -1 - -1");
        goodE("-1 * -1 * -1 * -1 * -1 * -1 * -1");
        goodE("-----1 * -----1 + -----1");
        goodE("not 1 and not 1 and not 1 and not 1 and not 1 and not 1");
        goodE("not not not not not 1 or not not not not not 1");
        // A not belongs to all of 1 < - 1, a - to its ONE alone.
        faultE("not not not not not 1 < -1", 24);
        goodE("not not not not 1 < -1");
        goodE("-----1 < -----1");
        faultE("not not not not not 1 + (1)", 24);
        goodE("not not not not not 1 and (1)");
        goodE("-----1 + (1)");
    }

    private static void sixTexts(CostsAge x) {
        for (int text = 1; text < 6; text++) {
            Check.due("text()", Check.text(x, "serves 1;adds " + text + ";gains 0;"), text);
        }
    }

    private static void sixTexts() {
        CostsAge x = new CostsAge();
        Check.due("count(7) at first", x.count(7), 1);
        sixTexts(x);
        Check.due("count(7)", x.count(7), 6);
        Check.due("a seventh", Check.text(x, "serves 1;adds 6;gains 0;"), -4);
        Check.due("count(7)", x.count(7), 6);
        x.buyer(0, 2630, 0);
        x.thing(0, 0);
        for (int text = 5; text > 0; text--) {
            x.force(text);
            Check.due("cost by TEXT " + text, x.cost(0, 1, 0), 30 + text);
        }
        x.force(0);
        Check.due("cost by TEXT 0", x.cost(0, 1, 0), 30);
        Check.due("force(6)", x.force(6), -2);
    }

    private static void textsAreFull() {
        for (String tape : new String[] {"", "serves 1;adds 1;gains 1;", "?", " ".repeat(160)}) {
            Check.refused("text() of \"" + tape + "\"", x -> {
                sixTexts(x);
                Check.feed(x, tape);
            }, CostsAge::text, -4);
        }
        CostsAge x = new CostsAge();
        sixTexts(x);
        Check.feed(x, "serves 1");
        Check.due("text()", x.text(), -4);
        Check.due("the tape goes on", x.feed(';'), 9);
    }

    private static void hundredLess() {
        fault("", 0);
        fault("?", 0);
        fault(" ?", 1);
        fault("serves 1;adds 0;gains 0" + " ".repeat(136) + "1", 159);
        fault("serves 1;adds 0;gains 0" + " ".repeat(137), 160);
        CostsAge x = new CostsAge();
        Shop.busy(x);
        Check.due("two TEXTS came", x.count(7), 3);
        x.text();
        Check.due("a FAULT", Check.text(x, "serves 1 1"), -109);
        Check.due("count(7) behind it", x.count(7), 3);
        Check.due("count(9) behind it", x.count(9), 2);
        Check.due("the next number", Check.text(x, "serves 1;adds 0;gains 0;"), 3);
        Check.due("THE RULE is as it was", x.count(9), 2);
    }

    private static void forces() {
        CostsAge x = new CostsAge();
        sixTexts(x);
        Check.due("count(9) at first", x.count(9), 0);
        Check.due("force(5)", x.force(5), 0);
        Check.due("count(9)", x.count(9), 5);
        Check.due("force(5)", x.force(5), 5);
        Check.due("force(0)", x.force(0), 5);
        Check.due("count(9)", x.count(9), 0);
    }

    private static void forceIsRefused() {
        // TEXTS 0, 1 and 2 are there.
        for (int text : new int[] {MIN, -1, 3, 5, 6, MAX}) {
            Check.refused("force(" + text + ")", Shop::busy, x -> x.force(text), -2);
        }
        Check.due("force(1) at first", new CostsAge().force(1), -2);
    }

    private static void textZero() {
        CostsAge x = Shop.of(0, 2609, 0, 0, 2610, 0);
        x.thing(7, 10);
        x.thing(8, 10);
        x.thing(1, 999);
        Check.due("size 7, age 9", x.cost(0, 1, 0), 9);
        Check.due("size 8, age 9", x.cost(0, 2, 0), -5);
        Check.due("size 8, age 10", x.cost(1, 2, 0), 10);
        Check.due("SIZES 8, age 9", x.cost(0, 5, 0), -5);
        Check.due("SIZES 8, age 10", x.cost(1, 5, 0), 10);
        Check.due("gains value", x.gain(2, 0), 990);
        Check.due("gains value", x.gain(1, 0), 0);
    }

    /** What an E is worth as adds of things, by a BUYER, in n WEEKS. */
    private static int addsOf(String e, int buyer, int set, int n) {
        CostsAge x = Shop.of(0, 5130, 50, 1, 2640, 70);
        x.thing(9, 999);
        x.thing(0, 0);
        x.thing(3, 1);
        x.set(3, 0, 0);
        x.set(3, 1, 0);
        x.set(3, 2, 1);
        x.set(4, 0, 63);
        Shop.passWeeks(x, 50);
        int plain = x.cost(buyer, set, n);
        Shop.rule(x, "1", e, "0");
        return x.cost(buyer, set, n) - plain;
    }

    private static void age() {
        Check.due("now", addsOf("age", 0, 1, 0), 30);
        Check.due("by a birthday", addsOf("age", 0, 1, 1), 31);
        Check.due("by two", addsOf("age", 0, 1, 53), 32);
        Check.due("another one's", addsOf("age", 1, 1, 0), 41);
    }

    private static void size() {
        Check.due("of one", addsOf("size", 0, 1, 0), 9);
        Check.due("of one of 0", addsOf("size", 0, 2, 0), 0);
        Check.due("together", addsOf("size", 0, 7, 0), 12);
        Check.due("together", addsOf("size", 0, 5, 0), 12);
        CostsAge x = Shop.of(0, 2630, 0);
        Shop.things(x, 9, 9, 9, 9, 9, 9, 9);
        x.set(4, 0, 63);
        Shop.rule(x, "1", "size", "0");
        Check.due("of 7 things", x.cost(0, 127, 0), 93);
    }

    private static void value() {
        Check.due("of one", addsOf("value", 0, 1, 0), 999);
        Check.due("of one of 0", addsOf("value", 0, 2, 0), 0);
        Check.due("together", addsOf("value - 900", 0, 5, 0), 100);
        Check.due("above the bound", addsOf("(value = 1000) * 7", 0, 7, 0), 7);
        CostsAge x = Shop.of(0, 2630, 0);
        for (int t = 0; t < 7; t++) {
            x.thing(0, 999);
        }
        Shop.rule(x, "1", "value - 6000", "0");
        Check.due("of 7 things", x.cost(0, 127, 0), 30 + 993);
    }

    private static void week() {
        Check.due("now", addsOf("week", 0, 1, 0), 50);
        Check.due("the last of the year", addsOf("week", 0, 1, 1), 51);
        Check.due("behind 51", addsOf("week", 0, 1, 2), 0);
        Check.due("a year on", addsOf("week", 0, 1, 53), 51);
        Check.due("behind it", addsOf("week", 0, 1, 54), 0);
        Check.due("in 103", addsOf("week", 0, 1, 103), 49);
    }

    private static void fee() {
        Check.due("of one", addsOf("fee", 0, 1, 0), 5);
        Check.due("not ASKS", addsOf("fee", 1, 1, 0), 7);
        CostsAge x = Shop.of(0, 0, 990, 0, 0, 0);
        x.thing(0, 0);
        x.set(3, 0, 0);
        Shop.rule(x, "1", "fee", "0");
        Check.due("FEE 99", x.cost(0, 1, 0), 99);
        Check.due("FEE 0", x.cost(1, 1, 0), 0);
    }

    private static void own() {
        Check.due("whom it is OWN to", addsOf("own", 0, 1, 0), 1);
        Check.due("another", addsOf("own", 1, 1, 0), 0);
        Check.due("all of those tied", addsOf("own", 0, 3, 0), 1);
        Check.due("not all of those tied", addsOf("own", 0, 5, 0), 0);
        Check.due("not all of those tied", addsOf("own", 1, 5, 0), 0);
        Check.due("not all of those tied", addsOf("own", 0, 7, 0), 0);
        Check.due("nor the last's", addsOf("own", 1, 7, 0), 0);
        Check.due("else 0", addsOf("(own = 0) * 7", 1, 1, 0), 7);
        Check.due("else 0, nobody's", addsOf("(own = 0) * 7", 1, 7, 0), 7);
        CostsAge x = Shop.of(0, 2630, 0);
        Shop.things(x, 0, 0, 0);
        Shop.rule(x, "1", "own", "0");
        Check.due("nobody's", x.cost(0, 1, 0), 30);
        Check.due("nobody's, tied", x.cost(0, 7, 0), 30);
        x.set(3, 1, 0);
        Check.due("nobody's, and one's", x.cost(0, 3, 0), 30);
        Check.due("one's, and nobody's", x.cost(0, 6, 0), 30);
        Check.due("between nobody's", x.cost(0, 7, 0), 30);
        Check.due("one's", x.cost(0, 2, 0), 31);
    }

    private static void serves() {
        truth("1", true);
        truth("-1", true);
        truth("9999", true);
        truth("0", false);
        truth("1 - 1", false);
        CostsAge x = Shop.of(0, 2630, 0);
        Shop.things(x, 0);
        Shop.rule(x, "0", "5", "9");
        Check.due("cost", x.cost(0, 1, 0), -5);
        Check.due("buy", x.buy(0, 1), -3);
        Check.due("best", x.best(1, 0, 0), -1);
        Check.due("gain", x.gain(0, 0), CostsAge.NO);
    }

    private static void bound(String e, int due) {
        CostsAge x = Shop.of(0, 2630, 0);
        x.thing(0, 0);
        Shop.rule(x, "1", e, "0");
        Check.due("cost by adds " + e, x.cost(0, 1, 0), 30 + due);
        Check.due("buy by adds " + e, x.buy(0, 1), 30 + due);
        CostsAge y = Shop.of(0, 2630, 0);
        y.thing(0, 0);
        Shop.rule(y, "1", "0", e);
        Check.due("gain by gains " + e, y.gain(0, 0), due - 30);
    }

    private static void adds() {
        bound("0", 0);
        bound("999", 999);
        bound("1000", 999);
        bound("9999", 999);
        bound("-1", 0);
        bound("1 - 2", 0);
        bound("4096*16*4096*8", 0);
        bound("4096*16*4096*8-1", 999);
    }

    private static void gains() {
        bound("1", 1);
        bound("998", 998);
        bound("998 + 2", 999);
        bound("-9999", 0);
    }
}
