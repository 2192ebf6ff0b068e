/** Objects laid out for the tests of edges. */
final class Shop {
    private Shop() {
    }

    /** Makes an object, tells it who buys. */
    static CostsAge of(int... kindsWhatsAsks) {
        CostsAge x = new CostsAge();
        for (int i = 0; i + 2 < kindsWhatsAsks.length; i += 3) {
            x.buyer(kindsWhatsAsks[i], kindsWhatsAsks[i + 1], kindsWhatsAsks[i + 2]);
        }
        return x;
    }

    /** So many BUYERS of KIND 0 that are BORN in WEEK 26, of 10 YEARS and more, one by one. */
    static CostsAge grown(int many) {
        CostsAge x = new CostsAge();
        for (int b = 0; b < many; b++) {
            x.buyer(0, 2610 + b, 0);
        }
        return x;
    }

    static void things(CostsAge x, int... sizes) {
        for (int size : sizes) {
            x.thing(size, 0);
        }
    }

    static void passWeeks(CostsAge x, int weeks) {
        for (int i = 0; i < weeks; i++) {
            x.pass();
        }
    }

    /** A TEXT becomes THE RULE. */
    static void rule(CostsAge x, String serves, String adds, String gains) {
        String text = "serves " + serves + ";adds " + adds + ";gains " + gains + ";";
        int number = Check.text(x, text);
        Check.holds(text + " is a TEXT", number > 0);
        x.force(number);
    }

    static void row(CostsAge x, int sheet, int sort, int... cells) {
        x.sheet(sheet, sort, cells.length);
        for (int i = 0; i < cells.length; i++) {
            x.cell(sheet, i, cells[i]);
        }
    }

    /** Something of everything, nothing as it is at first; THING 2 is BOUGHT, SHEET 3 missing. */
    static void busy(CostsAge x) {
        x.buyer(0, 1030, 40);
        x.buyer(1, 509, 62);
        x.buyer(5, 2070, 35);
        x.buyer(4, 308, 41);
        x.thing(3, 100);
        x.thing(8, 20);
        x.thing(2, 5);
        x.thing(6, 900);
        x.thing(1, 50);
        x.set(3, 0, 1);
        x.set(3, 3, 0);
        Check.text(x, "serves age<50;adds size;gains 7;");
        Check.text(x, "serves size<8or 9<age;adds week;gains value;");
        x.force(1);
        x.set(4, 0, 12);
        passWeeks(x, 3);
        x.image();
        x.pass();
        x.set(1, 1, 9);
        x.set(4, 0, 10);
        x.force(2);
        x.buy(0, 4);
        Check.feed(x, "serves 1;adds 5;gains 6");
        row(x, 0, 0, 30, 9, 70, 8);
        row(x, 1, 1, 0, 0, 1, 4);
        row(x, 2, 2, 1, 2, 3, 4, 5);
    }

    /** Nobody, nothing more has room. */
    static void sevens(CostsAge x) {
        for (int i = 0; i < 7; i++) {
            x.buyer(i % 6, 700 * i + 10 * i, 12 * i);
            x.thing(i, 100 * i);
        }
        x.image();
        x.pass();
    }
}
