/** The edges that the document names of SHEETS and of KINDS that are taken: promises 28 to 32. */
public final class EdgesOfHostTest {
    private static final int MIN = Integer.MIN_VALUE, MAX = Integer.MAX_VALUE;

    private EdgesOfHostTest() {
    }

    public static void main(String[] args) {
        sheets();
        cells();
        copies();
        things();
        taken();
        Check.end();
    }

    private static void sheets() {
        Check.sentence("SHEETS 0 .. 3", EdgesOfHostTest::fourSheets);
        Check.sentence("or missing (as all are at first)", EdgesOfHostTest::missingAtFirst);
        Check.sentence("of sort 0 bytes, 1 shorts, 2 ints", EdgesOfHostTest::sorts);
        Check.sentence("sheet: a row of n, all 0", EdgesOfHostTest::allZero);
        Check.sentence("sheet: n above 40", EdgesOfHostTest::fortyAtMost);
        Check.sentence("sheet: -14 (a size below 0)", EdgesOfHostTest::sizeBelowZero);
        Check.sentence("sheet: or missing (sort -1: n does not matter)",
                EdgesOfHostTest::becomesMissing);
    }

    private static void cells() {
        Check.sentence("cell: of bytes its lowest 8 bits", EdgesOfHostTest::lowestEight);
        Check.sentence("cell: of shorts its lowest 16 bits", EdgesOfHostTest::lowestSixteen);
        Check.sentence("cell: of ints v", EdgesOfHostTest::allBits);
        Check.sentence("cell: Item i of a SHEET", EdgesOfHostTest::oneItem);
        Check.sentence("cell: BAD: no such SHEET; -11; -12", EdgesOfHostTest::cellIsRefused);
    }

    private static void copies() {
        Check.sentence("copy: n numbers of a SHEET, from item i on", EdgesOfHostTest::copiesItems);
        Check.sentence("copy: (as they were)", EdgesOfHostTest::asTheyWere);
        Check.sentence("copy: none", EdgesOfHostTest::copiesNone);
        Check.sentence("copy: BAD: no such SHEET", EdgesOfHostTest::copyOfNoSheet);
        Check.sentence("copy: -11", EdgesOfHostTest::copyOfMissing);
        Check.sentence("copy: -13: they are of unlike sorts", EdgesOfHostTest::copyOfUnlike);
        Check.sentence("copy: -12 (also with n below 0)", EdgesOfHostTest::copyOutside);
    }

    private static void things() {
        Check.sentence("things: from one on, two by two (as of thing())",
                EdgesOfHostTest::twoByTwo);
        Check.sentence("things: n of them (0 .. 7)", EdgesOfHostTest::sevenAtMost);
        Check.sentence("things: how many came (others are left out)", EdgesOfHostTest::leftOut);
        Check.sentence("things: BAD: no such SHEET, sort, n; -13; -11",
                EdgesOfHostTest::thingsAreRefused);
        Check.sentence("things: -12: what stood ahead came", EdgesOfHostTest::aheadCame);
    }

    private static void taken() {
        Check.sentence("taken: one of KIND k, or one under that one (also by others between)",
                EdgesOfHostTest::underThatOne);
        Check.sentence("taken: the NUMBER", EdgesOfHostTest::theNumber);
        Check.sentence("taken: BAD: k; -11: no such BUYER; -13", EdgesOfHostTest::takenIsRefused);
    }

    /** Whether a SHEET has just these numbers, told as YEARS. */
    private static boolean has(CostsAge x, int sheet, int... cells) {
        for (int b = x.count(0); b < cells.length; b++) {
            x.buyer(0, 0, 0);
        }
        for (int b = 0; b < cells.length; b++) {
            x.set(0, b, cells[b]);
        }
        return x.count(0) == cells.length && x.lies(sheet) == 0;
    }

    private static void fourSheets() {
        CostsAge x = new CostsAge();
        for (int s = 0; s < 4; s++) {
            Check.due("sheet(" + s + ", 2, 2)", x.sheet(s, 2, 2), 1);
            Check.due("cell(" + s + ", 1, 7)", x.cell(s, 1, 7 + s), 1);
        }
        for (int s = 0; s < 4; s++) {
            Check.holds("each has its own", has(x, s, 0, 7 + s));
        }
        for (int s : new int[] {MIN, -1, 4, MAX}) {
            Check.refused("sheet(" + s + ", 0, 1)", Shop::busy, y -> y.sheet(s, 0, 1), -2);
            Check.refused("sheet(" + s + ", -1, 1)", Shop::busy, y -> y.sheet(s, -1, 1), -2);
            Check.refused("sheet(" + s + ", 0, -1)", Shop::busy, y -> y.sheet(s, 0, -1), -2);
        }
    }

    private static void missingAtFirst() {
        CostsAge x = new CostsAge();
        for (int s = 0; s < 4; s++) {
            Check.due("cell(" + s + ", 0, 0)", x.cell(s, 0, 0), -11);
            Check.due("lies(" + s + ")", x.lies(s), -11);
            Check.due("judge(" + s + ", 0)", x.judge(s, 0), -11);
            Check.due("copy(" + s + ", ..)", x.copy(s, 0, s, 0, 0), -11);
            Check.due("things(" + s + ", ..)", x.things(s, 0, 0, 0), -11);
        }
    }

    private static void sorts() {
        CostsAge x = new CostsAge();
        for (int sort = 0; sort < 3; sort++) {
            Check.due("sheet(0, " + sort + ", 4)", x.sheet(0, sort, 4), 1);
            for (int other = 0; other < 3; other++) {
                Check.due("things(0, " + other + ", 0, 0)", x.things(0, other, 0, 0),
                        other == sort ? 0 : -13);
            }
        }
        for (int sort : new int[] {MIN, -2, 3, MAX}) {
            Check.refused("sheet(0, " + sort + ", 1)", Shop::busy, y -> y.sheet(0, sort, 1), -2);
            Check.refused("sheet(0, " + sort + ", -1)", Shop::busy, y -> y.sheet(0, sort, -1), -2);
        }
    }

    private static void allZero() {
        CostsAge x = new CostsAge();
        for (int sort = 0; sort < 3; sort++) {
            Shop.row(x, 0, sort, 1, 2, 3, 4, 5, 6, 7);
            x.sheet(0, sort, 7);
            Check.holds("of one size", has(x, 0, 0, 0, 0, 0, 0, 0, 0));
            Shop.row(x, 0, sort, 1, 2, 3, 4, 5, 6, 7);
            x.sheet(0, sort, 3);
            x.sheet(0, (sort + 1) % 3, 7);
            Check.holds("of a larger one", has(x, 0, 0, 0, 0, 0, 0, 0, 0));
            Shop.row(x, 0, sort, 1, 2, 3, 4, 5, 6, 7);
            x.sheet(0, -1, 0);
            x.sheet(0, sort, 7);
            Check.holds("of a missing one", has(x, 0, 0, 0, 0, 0, 0, 0, 0));
        }
    }

    private static void fortyAtMost() {
        CostsAge x = new CostsAge();
        for (int sort = 0; sort < 3; sort++) {
            Check.due("sheet(1, " + sort + ", 40)", x.sheet(1, sort, 40), 1);
            Check.due("cell(1, 39, 1)", x.cell(1, 39, 1), 1);
            Check.due("cell(1, 40, 1)", x.cell(1, 40, 1), -12);
            Check.due("sheet(1, " + sort + ", 0)", x.sheet(1, sort, 0), 1);
            Check.due("cell(1, 0, 1)", x.cell(1, 0, 1), -12);
            for (int n : new int[] {41, MAX}) {
                int s = sort;
                Check.refused("sheet(0, " + s + ", " + n + ")", Shop::busy,
                        y -> y.sheet(0, s, n), -2);
                Check.refused("sheet(3, " + s + ", " + n + ")", Shop::busy,
                        y -> y.sheet(3, s, n), -2);
            }
        }
    }

    private static void sizeBelowZero() {
        for (int sort = 0; sort < 3; sort++) {
            for (int n : new int[] {-1, -40, MIN}) {
                int s = sort;
                Check.refused("sheet(0, " + s + ", " + n + ")", Shop::busy,
                        y -> y.sheet(0, s, n), -14);
                Check.refused("sheet(3, " + s + ", " + n + ")", Shop::busy,
                        y -> y.sheet(3, s, n), -14);
            }
        }
    }

    private static void becomesMissing() {
        CostsAge x = new CostsAge();
        for (int n : new int[] {MIN, -1, 0, 40, 41, MAX}) {
            x.sheet(2, 1, 4);
            Check.due("lies(2)", x.lies(2), -2);
            Check.due("sheet(2, -1, " + n + ")", x.sheet(2, -1, n), 1);
            Check.due("lies(2)", x.lies(2), -11);
            Check.due("sheet(2, -1, " + n + "), missing", x.sheet(2, -1, n), 1);
        }
    }

    /** Whether v in a cell of a sort is told as a row of YEARS (0 .. 99) tells due. */
    private static void cellBehind(int sort, int v, int due) {
        CostsAge x = Shop.of(0, 2600 + due, 0);
        x.sheet(0, sort, 1);
        Check.due("cell(0, 0, " + v + ")", x.cell(0, 0, v), 1);
        Check.due("sort " + sort + ", " + v + " behind which is " + due, x.lies(0), 0);
    }

    /** What v in a cell of a sort is as a VALUE; -1: none. */
    private static void valueBehind(int sort, int v, int due) {
        CostsAge x = new CostsAge();
        Shop.row(x, 0, sort, 1, v);
        Check.due("sort " + sort + ", a VALUE " + v + " comes", x.things(0, sort, 0, 1),
                due < 0 ? 0 : 1);
        Check.due("sort " + sort + ", a VALUE " + v, x.told(0, 8), due < 0 ? -2 : due);
    }

    private static void lowestEight() {
        cellBehind(0, 0, 0);
        cellBehind(0, 99, 99);
        cellBehind(0, 256, 0);
        cellBehind(0, 256 + 99, 99);
        cellBehind(0, -256, 0);
        cellBehind(0, -255, 1);
        cellBehind(0, 65536 + 7, 7);
        cellBehind(0, MIN + 5, 5);
        cellBehind(0, MAX - 255 + 9, 9);
        valueBehind(0, 127, 127);
        // A byte has a sign.
        valueBehind(0, 128, -1);
        valueBehind(0, 255, -1);
        valueBehind(0, -1, -1);
        valueBehind(0, -129, 127);
        valueBehind(0, 999, -1);
    }

    private static void lowestSixteen() {
        cellBehind(1, 0, 0);
        cellBehind(1, 65536, 0);
        cellBehind(1, 65536 + 99, 99);
        cellBehind(1, -65536 + 1, 1);
        cellBehind(1, MIN + 5, 5);
        valueBehind(1, 255, 255);
        valueBehind(1, 256, 256);
        valueBehind(1, 999, 999);
        valueBehind(1, 1000, -1);
        valueBehind(1, 65535, -1);
        valueBehind(1, -1, -1);
        valueBehind(1, 65536 + 999, 999);
        valueBehind(1, 32768, -1);
        valueBehind(1, -65536 - 1, -1);
    }

    private static void allBits() {
        cellBehind(2, 0, 0);
        cellBehind(2, 99, 99);
        valueBehind(2, 999, 999);
        valueBehind(2, 256, 256);
        for (int v : new int[] {-1, 1000, 65536, 65536 + 5, 1 << 24, MIN, MAX}) {
            valueBehind(2, v, -1);
        }
    }

    private static void oneItem() {
        for (int sort = 0; sort < 3; sort++) {
            CostsAge x = new CostsAge();
            Shop.row(x, 0, sort, 1, 2, 3);
            Shop.row(x, 1, sort, 1, 2, 3);
            Check.due("cell(0, 0, 9)", x.cell(0, 0, 9), 1);
            Check.holds("the first", has(x, 0, 9, 2, 3));
            Check.due("cell(0, 2, 7)", x.cell(0, 2, 7), 1);
            Check.holds("the last", has(x, 0, 9, 2, 7));
            Check.due("cell(0, 0, 0)", x.cell(0, 0, 0), 1);
            Check.holds("0 again", has(x, 0, 0, 2, 7));
            Check.holds("another SHEET", has(x, 1, 1, 2, 3));
        }
    }

    private static void cellIsRefused() {
        // SHEET 0 has 4 items, 1 has 4, 2 has 5, 3 is missing.
        int[][] wrong = {{MIN, 0, -2}, {-1, 0, -2}, {4, 0, -2}, {MAX, 0, -2}, {4, -1, -2},
            {3, 0, -11}, {3, -1, -11}, {3, 40, -11}, {0, MIN, -12}, {0, -1, -12}, {0, 4, -12},
            {0, 39, -12}, {0, 40, -12}, {0, MAX, -12}, {1, 4, -12}, {2, 5, -12}, {2, -1, -12}};
        for (int[] w : wrong) {
            Check.refused("cell(" + w[0] + ", " + w[1] + ", 77)", Shop::busy,
                    x -> x.cell(w[0], w[1], 77), w[2]);
        }
        CostsAge x = new CostsAge();
        x.sheet(0, 2, 0);
        Check.due("cell(0, 0, 0) of an empty SHEET", x.cell(0, 0, 0), -12);
    }

    private static void copiesItems() {
        for (int sort = 0; sort < 3; sort++) {
            CostsAge x = new CostsAge();
            Shop.row(x, 0, sort, 1, 2, 3, 4, 5);
            Shop.row(x, 3, sort, 11, 12, 13);
            Check.due("copy(0, 2, 3, 1, 2)", x.copy(0, 2, 3, 1, 2), 2);
            Check.holds("the other", has(x, 3, 11, 3, 4));
            Check.due("copy(0, 0, 3, 0, 3)", x.copy(0, 0, 3, 0, 3), 3);
            Check.holds("all of the other", has(x, 3, 1, 2, 3));
            Check.due("copy(0, 4, 3, 2, 1)", x.copy(0, 4, 3, 2, 1), 1);
            Check.holds("the last of each", has(x, 3, 1, 2, 5));
            Check.due("copy(3, 0, 0, 4, 1)", x.copy(3, 0, 0, 4, 1), 1);
            Check.holds("what was copied from", has(x, 0, 1, 2, 3, 4, 1));
            Check.due("copy(0, 0, 0, 0, 5)", x.copy(0, 0, 0, 0, 5), 5);
            Check.holds("onto itself", has(x, 0, 1, 2, 3, 4, 1));
        }
        CostsAge whole = new CostsAge();
        whole.sheet(0, 2, 40);
        whole.sheet(1, 2, 40);
        whole.cell(0, 39, 9);
        Check.due("copy(0, 0, 1, 0, 40)", whole.copy(0, 0, 1, 0, 40), 40);
        whole.sheet(2, 2, 1);
        whole.copy(1, 39, 2, 0, 1);
        Check.holds("the fortieth", has(whole, 2, 9));
        CostsAge signed = new CostsAge();
        Shop.row(signed, 0, 0, -1, 128);
        Shop.row(signed, 1, 0, 5, 5);
        signed.copy(0, 0, 1, 0, 2);
        Check.due("as bytes they come", signed.things(1, 0, 0, 1), 0);
    }

    private static void asTheyWere() {
        for (int sort = 0; sort < 3; sort++) {
            CostsAge x = new CostsAge();
            Shop.row(x, 1, sort, 1, 2, 3, 4, 5);
            Check.due("later: copy(1, 0, 1, 1, 4)", x.copy(1, 0, 1, 1, 4), 4);
            Check.holds("later", has(x, 1, 1, 1, 2, 3, 4));
            Shop.row(x, 1, sort, 1, 2, 3, 4, 5);
            Check.due("earlier: copy(1, 1, 1, 0, 4)", x.copy(1, 1, 1, 0, 4), 4);
            Check.holds("earlier", has(x, 1, 2, 3, 4, 5, 5));
        }
    }

    private static void copiesNone() {
        int[][] none = {{0, 0}, {4, 4}, {4, 0}, {0, 4}};
        for (int[] n : none) {
            Check.asks("copy(0, " + n[0] + ", 0, " + n[1] + ", 0)", Shop::busy,
                    x -> x.copy(0, n[0], 0, n[1], 0), 0);
        }
        Check.asks("copy(2, 5, 2, 5, 0)", Shop::busy, x -> x.copy(2, 5, 2, 5, 0), 0);
        CostsAge x = new CostsAge();
        x.sheet(0, 0, 0);
        Check.due("of an empty SHEET", x.copy(0, 0, 0, 0, 0), 0);
    }

    private static void copyIsRefused(int due, int[][] wrong) {
        for (int[] w : wrong) {
            Check.refused("copy(" + w[0] + ", " + w[1] + ", " + w[2] + ", " + w[3] + ", " + w[4]
                    + ")", Shop::busy, x -> x.copy(w[0], w[1], w[2], w[3], w[4]), due);
        }
    }

    private static void copyOfNoSheet() {
        copyIsRefused(-2, new int[][] {{-1, 0, 0, 0, 1}, {4, 0, 0, 0, 1}, {0, 0, -1, 0, 1},
            {0, 0, 4, 0, 1}, {MIN, 0, MAX, 0, 1}, {3, 0, 4, 0, 1}, {4, 0, 3, 0, 1},
            {-1, -1, 0, -1, -1}, {0, 9, 4, 9, 9}});
    }

    private static void copyOfMissing() {
        copyIsRefused(-11, new int[][] {{3, 0, 0, 0, 1}, {0, 0, 3, 0, 1}, {3, 0, 3, 0, 1},
            {3, 0, 3, 0, 0}, {3, -1, 0, 0, 1}, {0, 0, 3, 9, 1}, {0, 0, 3, 0, -1}});
    }

    private static void copyOfUnlike() {
        copyIsRefused(-13, new int[][] {{0, 0, 1, 0, 1}, {1, 0, 0, 0, 1}, {0, 0, 2, 0, 1},
            {2, 0, 0, 0, 1}, {1, 0, 2, 0, 1}, {2, 0, 1, 0, 1}, {0, 0, 1, 0, 0}, {0, -1, 1, 0, 1},
            {0, 0, 1, 9, 1}, {0, 0, 1, 0, -1}, {2, 0, 1, 0, MAX}});
    }

    private static void copyOutside() {
        copyIsRefused(-12, new int[][] {{0, -1, 0, 0, 1}, {0, 0, 0, -1, 1}, {0, 0, 0, 0, -1},
            {0, 0, 0, 0, 5}, {0, 4, 0, 0, 1}, {0, 0, 0, 4, 1}, {0, 3, 0, 0, 2}, {0, 0, 0, 3, 2},
            {0, 5, 0, 0, 0}, {0, 0, 0, 5, 0}, {0, -1, 0, 0, 0}, {0, 0, 0, -1, 0},
            {2, 5, 2, 4, 1}, {2, 1, 2, 0, 5}, {2, 0, 2, 1, 5}, {2, 0, 2, 0, 6},
            {2, 0, 2, 0, 40}, {0, MIN, 0, 0, 1}, {0, 0, 0, MIN, 1}, {0, 0, 0, 0, MIN},
            {0, MAX, 0, 0, 1}, {0, 0, 0, MAX, 1}, {0, 0, 0, 0, MAX}, {0, MAX, 0, MAX, MAX},
            {0, 1, 0, 1, MAX}, {0, MAX, 0, 0, MIN}, {0, -1, 0, -1, -1}, {0, 4, 0, 4, -1}});
        CostsAge x = new CostsAge();
        x.sheet(0, 1, 0);
        Check.due("of an empty SHEET", x.copy(0, 0, 0, 0, 1), -12);
        Shop.row(x, 1, 1, 1, 2);
        Check.due("to an empty SHEET", x.copy(1, 0, 0, 0, 1), -12);
        Check.due("from an empty SHEET", x.copy(0, 0, 1, 0, 1), -12);
        Check.holds("which is as it was", has(x, 1, 1, 2));
    }

    private static void twoByTwo() {
        for (int sort = 0; sort < 3; sort++) {
            CostsAge x = Shop.grown(1);
            Shop.row(x, 2, sort, 9, 8, 7, 6, 5, 4);
            Check.due("from 1 on", x.things(2, sort, 1, 2), 2);
            int[][] due = {{8, 7}, {6, 5}};
            for (int t = 0; t < 2; t++) {
                Check.due("SIZE", x.told(t, 7), due[t][0]);
                Check.due("VALUE", x.told(t, 8), due[t][1]);
                Check.due("OWN", x.told(t, 9), -1);
                Check.due("BOUGHT", x.told(t, 10), 0);
            }
            Check.due("from 4 on, the last two", x.things(2, sort, 4, 1), 1);
            Check.due("SIZE", x.told(2, 7), 5);
            Check.due("VALUE", x.told(2, 8), 4);
            Check.due("count(1)", x.count(1), 3);
        }
        CostsAge ends = new CostsAge();
        Shop.row(ends, 0, 2, 0, 0, 9, 999, -1, 0, 10, 0, 0, -1, 0, 1000);
        Check.due("as of thing()", ends.things(0, 2, 0, 6), 2);
        Check.due("SIZE 9", ends.told(1, 7), 9);
        Check.due("VALUE 999", ends.told(1, 8), 999);
    }

    private static void sevenAtMost() {
        CostsAge x = new CostsAge();
        x.sheet(0, 0, 14);
        Check.due("7", x.things(0, 0, 0, 7), 7);
        Check.due("count(1)", x.count(1), 7);
        for (int n : new int[] {MIN, -1, 8, MAX}) {
            Check.refused("things(1, 1, 0, " + n + ")", Shop::busy, y -> y.things(1, 1, 0, n), -2);
        }
        // With no number to be read, no place is outside.
        for (int from : new int[] {MIN, -1, 0, 3, 4, 5, MAX}) {
            Check.asks("things(1, 1, " + from + ", 0)", Shop::busy, y -> y.things(1, 1, from, 0),
                    0);
        }
    }

    private static void leftOut() {
        CostsAge x = new CostsAge();
        Shop.row(x, 0, 1, 10, 0, 1, 1000, -1, 0, 1, -1, 4, 40);
        Check.due("one of five", x.things(0, 1, 0, 5), 1);
        Check.due("count(1)", x.count(1), 1);
        Check.due("its SIZE", x.told(0, 7), 4);
        Check.due("none of four", x.things(0, 1, 0, 4), 0);
        for (int t = 1; t < 6; t++) {
            x.thing(0, 0);
        }
        Shop.row(x, 1, 0, 1, 10, 2, 20, 3, 30);
        Check.due("room for one of three", x.things(1, 0, 0, 3), 1);
        Check.due("the first", x.told(6, 8), 10);
        Check.due("count(1)", x.count(1), 7);
        Check.due("room for none", x.things(1, 0, 0, 3), 0);
        Check.refused("full: things(0, 0, 0, 2)", y -> {
            Shop.sevens(y);
            Shop.row(y, 0, 0, 1, 10, 2, 20);
        }, y -> y.things(0, 0, 0, 2), 0);
    }

    private static void thingsAreRefused() {
        int[][] wrong = {{MIN, 0, 0, 1, -2}, {-1, 0, 0, 1, -2}, {4, 0, 0, 1, -2},
            {MAX, 0, 0, 1, -2}, {0, -1, 0, 1, -2}, {0, 3, 0, 1, -2}, {0, MIN, 0, 1, -2},
            {0, 0, 0, -1, -2}, {0, 0, 0, 8, -2}, {3, -1, 0, 1, -2}, {3, 3, 0, 1, -2},
            {3, 0, 0, 8, -2}, {1, 0, 0, 8, -2}, {4, 0, 9, 9, -2}, {0, 1, 0, 1, -13},
            {0, 2, 0, 1, -13}, {1, 0, 0, 1, -13}, {1, 2, 0, 0, -13}, {2, 0, 9, 1, -13},
            {2, 1, -1, 7, -13}, {3, 0, 0, 1, -11}, {3, 1, 0, 0, -11}, {3, 2, -1, 7, -11},
            {0, 0, -1, 1, -12}, {0, 0, 3, 1, -12}, {0, 0, 4, 1, -12}, {0, 0, MIN, 1, -12},
            {0, 0, MAX, 1, -12}, {0, 0, MAX - 1, 7, -12}, {0, 0, -2, 2, -12}, {1, 1, 40, 1, -12}};
        for (int[] w : wrong) {
            Check.refused("things(" + w[0] + ", " + w[1] + ", " + w[2] + ", " + w[3] + ")",
                    Shop::busy, x -> x.things(w[0], w[1], w[2], w[3]), w[4]);
        }
    }

    private static void aheadCame() {
        for (int sort = 0; sort < 3; sort++) {
            CostsAge x = new CostsAge();
            Shop.row(x, 0, sort, 1, 10, 2, 20, 3);
            Check.due("the third is half outside", x.things(0, sort, 0, 3), -12);
            Check.due("two came", x.count(1), 2);
            Check.due("the second", x.told(1, 8), 20);
            Check.due("the second is outside", x.things(0, sort, 3, 2), -12);
            Check.due("none came: VALUE 3 of SIZE 20 is BAD", x.count(1), 2);
            Check.due("one is outside", x.things(0, sort, 2, 7), -12);
            Check.due("one came", x.count(1), 3);
            Check.due("just to the end", x.things(0, sort, 1, 2), 0);
            Check.due("none is left: as many as that", x.count(1), 3);
        }
        CostsAge full = new CostsAge();
        Shop.sevens(full);
        Shop.row(full, 0, 0, 1, 1, 2, 2);
        Check.due("full, and one is outside", full.things(0, 0, 0, 3), -12);
        Check.due("count(1)", full.count(1), 7);
        CostsAge empty = new CostsAge();
        empty.sheet(0, 0, 0);
        Check.due("of an empty SHEET", empty.things(0, 0, 0, 1), -12);
        empty.sheet(0, 0, 1);
        Check.due("of a SHEET of 1", empty.things(0, 0, 0, 1), -12);
        Check.due("count(1)", empty.count(1), 0);
    }

    private static void underThatOne() {
        // BUYER, CHILD, ELDER, BABY, TWIN, WIDOW.
        String[] under = {"0", "01", "02", "013", "014", "025"};
        CostsAge x = new CostsAge();
        for (int kind = 0; kind < 6; kind++) {
            x.buyer(kind, 0, 4 + kind);
        }
        for (int kind = 0; kind < 6; kind++) {
            for (int k = 0; k < 6; k++) {
                boolean so = under[kind].indexOf('0' + k) >= 0;
                Check.due("taken(" + kind + ", " + k + ")", x.taken(kind, k), so ? 4 + kind : -13);
            }
        }
    }

    private static void theNumber() {
        for (int number = 0; number < 10; number++) {
            CostsAge x = Shop.of(5, 2650, 990 + number);
            Check.due("taken(0, 5)", x.taken(0, 5), number);
            Check.due("taken(0, 2)", x.taken(0, 2), number);
            Check.due("taken(0, 0)", x.taken(0, 0), number);
        }
        Check.asks("taken(3, 1)", Shop::busy, x -> x.taken(3, 1), 1);
    }

    private static void takenIsRefused() {
        // BUYERS 0 to 3: BUYER, CHILD, WIDOW, TWIN.
        int[][] wrong = {{0, MIN, -2}, {0, -1, -2}, {0, 6, -2}, {0, MAX, -2}, {4, 6, -2},
            {-1, -1, -2}, {MIN, 0, -11}, {-1, 0, -11}, {4, 0, -11}, {7, 5, -11}, {MAX, 5, -11},
            {0, 1, -13}, {0, 5, -13}, {1, 2, -13}, {1, 3, -13}, {1, 4, -13}, {2, 1, -13},
            {3, 3, -13}, {3, 2, -13}};
        for (int[] w : wrong) {
            Check.refused("taken(" + w[0] + ", " + w[1] + ")", Shop::busy,
                    x -> x.taken(w[0], w[1]), w[2]);
        }
        Check.due("nobody is there", new CostsAge().taken(0, 0), -11);
    }
}
