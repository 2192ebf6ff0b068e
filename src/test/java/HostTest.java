/** Promises 28 to 32: sheet, cell, copy, things, taken. */
public final class HostTest {
    private HostTest() {
    }

    public static void main(String[] args) {
        sheets();
        sheetsAreRefused();
        cells();
        cellsAreRefused();
        copies();
        copiesAreRefused();
        things();
        thingsAreRefused();
        whatStoodAheadCame();
        taken();
        Check.end();
    }

    private static void row(CostsAge x, int sheet, int sort, int... cells) {
        x.sheet(sheet, sort, cells.length);
        for (int i = 0; i < cells.length; i++) {
            x.cell(sheet, i, cells[i]);
        }
    }

    private static void host(CostsAge x) {
        x.buyer(0, 30, 7);
        x.buyer(4, 30, 8);
        x.thing(1, 1);
        x.image();
        row(x, 0, 0, 30, 31);
        row(x, 1, 1, 0, 0, 3, 5);
        row(x, 2, 2, 1, 2, 3, 4, 5);
    }

    /** Whether a sheet has just these numbers, told as YEARS of as many BUYERS. */
    private static boolean holds(CostsAge x, int sheet, int... cells) {
        for (int b = x.count(0); b < cells.length; b++) {
            x.buyer(0, 0, 0);
        }
        for (int b = 0; b < cells.length; b++) {
            x.set(0, b, cells[b]);
        }
        return x.lies(sheet) == 0;
    }

    private static void sheets() {
        CostsAge x = new CostsAge();
        for (int s = 0; s < 4; s++) {
            Check.due("missing at first", x.cell(s, 0, 1), -11);
        }
        for (int sort = 0; sort < 3; sort++) {
            Check.due("sheet(0, " + sort + ", 40)", x.sheet(0, sort, 40), 1);
            Check.due("its last", x.cell(0, 39, 5), 1);
            Check.due("behind its last", x.cell(0, 40, 5), -12);
            Check.due("its sort", x.things(0, sort, 0, 0), 0);
            Check.due("another sort", x.things(0, (sort + 1) % 3, 0, 0), -13);
            Check.due("sheet(3, " + sort + ", 0)", x.sheet(3, sort, 0), 1);
            Check.due("of none", x.cell(3, 0, 5), -12);
        }
        row(x, 1, 2, 7, 8);
        Check.holds("cells", holds(x, 1, 7, 8));
        Check.due("again", x.sheet(1, 2, 2), 1);
        Check.holds("all 0 again", holds(x, 1, 0, 0));
        Check.due("sheet(1, -1, -5)", x.sheet(1, -1, -5), 1);
        Check.due("missing", x.cell(1, 0, 1), -11);
        Check.due("sheet(0, -1, 99)", x.sheet(0, -1, 99), 1);
        Check.due("missing", x.lies(0), -11);
        Check.due("missing once more", x.sheet(0, -1, 0), 1);
    }

    private static void sheetsAreRefused() {
        int[][] wrong = {{-1, 0, 1, -2}, {4, 0, 1, -2}, {4, -1, 1, -2}, {0, -2, 1, -2},
            {0, 3, 1, -2}, {0, 3, -1, -2}, {0, 0, 41, -2}, {0, 2, Integer.MAX_VALUE, -2},
            {0, 0, -1, -14}, {2, 2, Integer.MIN_VALUE, -14}, {4, 0, -1, -2}};
        for (int[] w : wrong) {
            Check.refused("sheet(" + w[0] + ", " + w[1] + ", " + w[2] + ")", HostTest::host,
                    x -> x.sheet(w[0], w[1], w[2]), w[3]);
        }
    }

    /** What a cell of a sort holds behind v, as a THING's value (999 and 0 at the bounds). */
    private static int valueBehind(int sort, int v) {
        CostsAge x = new CostsAge();
        row(x, 0, sort, 1, v);
        return x.things(0, sort, 0, 1) == 1 ? x.told(0, 8) : -1;
    }

    private static void cells() {
        int[][] due = {{0, 5, 5}, {0, 127, 127}, {0, 128, -1}, {0, 255, -1}, {0, 256, 0},
            {0, 256 + 77, 77}, {0, -256 + 3, 3}, {0, 65536, 0}, {0, -1, -1}, {1, 999, 999},
            {1, 128, 128}, {1, 256, 256}, {1, 65536 + 9, 9}, {1, 65535, -1}, {1, -65536, 0},
            {1, 32768, -1}, {2, 256, 256}, {2, 65536, -1}, {2, 999, 999}, {2, 1000, -1},
            {2, -1, -1}, {2, Integer.MIN_VALUE, -1}, {1, Integer.MIN_VALUE, 0},
            {0, Integer.MIN_VALUE + 1, 1}};
        for (int[] d : due) {
            Check.due("a cell of sort " + d[0] + " behind " + d[1], valueBehind(d[0], d[1]), d[2]);
        }
        CostsAge x = new CostsAge();
        row(x, 0, 0, 1, 2, 3);
        Check.due("cell(0, 1, 9)", x.cell(0, 1, 9), 1);
        Check.holds("the others stay", holds(x, 0, 1, 9, 3));
    }

    private static void cellsAreRefused() {
        int[][] wrong = {{-1, 0, -2}, {4, 0, -2}, {3, 0, -11}, {3, -1, -11}, {0, -1, -12},
            {0, 2, -12}, {2, 5, -12}, {0, Integer.MAX_VALUE, -12}, {0, Integer.MIN_VALUE, -12},
            {4, -1, -2}};
        for (int[] w : wrong) {
            Check.refused("cell(" + w[0] + ", " + w[1] + ", 7)", HostTest::host,
                    x -> x.cell(w[0], w[1], 7), w[2]);
        }
    }

    private static void copies() {
        for (int sort = 0; sort < 3; sort++) {
            CostsAge x = new CostsAge();
            row(x, 0, sort, 1, 2, 3, 4, 5);
            row(x, 1, sort, 11, 12, 13);
            Check.due("copy(0, 1, 1, 0, 2)", x.copy(0, 1, 1, 0, 2), 2);
            Check.holds("the other", holds(x, 1, 2, 3, 13));
            CostsAge y = new CostsAge();
            row(y, 0, sort, 1, 2, 3, 4, 5);
            Check.due("onto itself, later", y.copy(0, 0, 0, 2, 3), 3);
            Check.holds("as they were", holds(y, 0, 1, 2, 1, 2, 3));
            CostsAge z = new CostsAge();
            row(z, 0, sort, 1, 2, 3, 4, 5);
            Check.due("onto itself, earlier", z.copy(0, 1, 0, 0, 4), 4);
            Check.holds("as they were", holds(z, 0, 2, 3, 4, 5, 5));
            Check.due("none, at the end", z.copy(0, 5, 0, 5, 0), 0);
            Check.due("all", z.copy(0, 0, 0, 0, 5), 5);
        }
    }

    private static void copiesAreRefused() {
        int max = Integer.MAX_VALUE;
        int[][] wrong = {{-1, 0, 0, 0, 1, -2}, {0, 0, 4, 0, 1, -2}, {4, 0, 3, 0, 1, -2},
            {3, 0, 4, 0, 1, -2}, {3, 0, 0, 0, 1, -11}, {0, 0, 3, 0, 1, -11},
            {3, -1, 3, 0, -1, -11}, {0, 0, 3, 0, -1, -11}, {0, 0, 1, 0, 1, -13},
            {1, 0, 2, 0, 1, -13}, {0, -1, 1, 0, -1, -13}, {0, 0, 2, 0, 0, -13},
            {0, 0, 0, 0, -1, -12}, {0, -1, 0, 0, 1, -12}, {0, 0, 0, -1, 1, -12},
            {0, 2, 0, 0, 1, -12}, {0, 0, 0, 2, 1, -12}, {0, 3, 0, 0, 0, -12},
            {0, 0, 0, 3, 0, -12}, {2, 1, 2, 0, 5, -12}, {2, 0, 2, 1, 5, -12},
            {2, max, 2, 0, 1, -12}, {2, 1, 2, 0, max, -12}, {2, 0, 2, max, max, -12},
            {2, 0, 2, 0, Integer.MIN_VALUE, -12}, {2, Integer.MIN_VALUE, 2, 0, 1, -12}};
        for (int[] w : wrong) {
            Check.refused("copy(" + w[0] + ", " + w[1] + ", " + w[2] + ", " + w[3] + ", " + w[4]
                    + ")", HostTest::host, x -> x.copy(w[0], w[1], w[2], w[3], w[4]), w[5]);
        }
    }

    private static void things() {
        for (int sort = 0; sort < 3; sort++) {
            CostsAge x = new CostsAge();
            row(x, 2, sort, 77, 3, 5, 10, 5, 0, 100, -1, 4, 9, 99, 4, -4);
            Check.due("things(2, " + sort + ", 1, 6)", x.things(2, sort, 1, 6), 3);
            int[][] due = {{3, 5}, {0, 100}, {9, 99}};
            for (int t = 0; t < 3; t++) {
                Check.due("SIZE of " + t, x.told(t, 7), due[t][0]);
                Check.due("VALUE of " + t, x.told(t, 8), due[t][1]);
                Check.due("OWN of " + t, x.told(t, 9), -1);
                Check.due("BOUGHT of " + t, x.told(t, 10), 0);
            }
            Check.due("count(1)", x.count(1), 3);
            Check.due("none", x.things(2, sort, 0, 0), 0);
            Check.due("none from anywhere", x.things(2, sort, -9, 0), 0);
        }
        CostsAge full = new CostsAge();
        full.sheet(0, 0, 14);
        Check.due("seven", full.things(0, 0, 0, 7), 7);
        Check.due("no room for more", full.things(0, 0, 0, 7), 0);
        Check.due("count(1)", full.count(1), 7);
        CostsAge near = new CostsAge();
        near.sheet(0, 0, 14);
        near.things(0, 0, 0, 5);
        Check.due("room for two more", near.things(0, 0, 0, 7), 2);
    }

    private static void thingsAreRefused() {
        int[][] wrong = {{-1, 0, 0, 1, -2}, {4, 0, 0, 1, -2}, {0, -1, 0, 1, -2}, {0, 3, 0, 1, -2},
            {0, 0, 0, -1, -2}, {0, 0, 0, 8, -2}, {3, 3, 0, 1, -2}, {1, 0, 0, 8, -2},
            {3, 0, 0, 0, -11}, {3, 2, -1, 7, -11}, {1, 0, 0, 1, -13}, {0, 1, 9, 1, -13},
            {2, 0, 0, 0, -13}, {0, 2, 0, 0, -13}, {1, 1, -1, 1, -12}, {1, 1, 4, 1, -12},
            {1, 1, 3, 1, -12}, {1, 1, Integer.MAX_VALUE, 2, -12},
            {1, 1, Integer.MIN_VALUE, 2, -12}, {1, 1, -1, 7, -12}, {1, 1, -2, 3, -12}};
        for (int[] w : wrong) {
            Check.refused("things(" + w[0] + ", " + w[1] + ", " + w[2] + ", " + w[3] + ")",
                    HostTest::host, x -> x.things(w[0], w[1], w[2], w[3]), w[4]);
        }
    }

    private static void whatStoodAheadCame() {
        CostsAge x = new CostsAge();
        row(x, 0, 1, 1, 2, 10, 0, 3, 4, 5);
        Check.due("things(0, 1, 0, 4)", x.things(0, 1, 0, 4), -12);
        Check.due("what stood ahead came", x.count(1), 2);
        Check.due("told(1, 7)", x.told(1, 7), 3);
        Check.due("told(1, 8)", x.told(1, 8), 4);
        Check.due("just those that are there", x.things(0, 1, 0, 3), 2);
        Check.due("a place outside though no room is left", full(x).things(0, 1, 0, 4), -12);
    }

    private static CostsAge full(CostsAge x) {
        for (int i = 0; i < 7; i++) {
            x.thing(1, 1);
        }
        return x;
    }

    private static void taken() {
        int[][] under = {{0}, {0, 1}, {0, 2}, {0, 1, 3}, {0, 1, 4}, {0, 2, 5}};
        CostsAge x = new CostsAge();
        for (int kind = 0; kind < 6; kind++) {
            x.buyer(kind, 0, 10 + kind);
        }
        for (int kind = 0; kind < 6; kind++) {
            for (int k = 0; k < 6; k++) {
                int due = -13;
                for (int u : under[kind]) {
                    due = u == k ? kind : due;
                }
                Check.due("taken(" + kind + ", " + k + ")", x.taken(kind, k), due);
            }
        }
        int[][] wrong = {{0, -1, -2}, {0, 6, -2}, {9, 6, -2}, {-1, 6, -2}, {2, 0, -11},
            {-1, 0, -11}, {Integer.MIN_VALUE, 5, -11}, {0, 1, -13}, {1, 3, -13}};
        for (int[] w : wrong) {
            Check.refused("taken(" + w[0] + ", " + w[1] + ")", HostTest::host,
                    y -> y.taken(w[0], w[1]), w[2]);
        }
    }
}
