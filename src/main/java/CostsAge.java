/**
 * A shop in which it costs one's age, its buyers and things; ../shared/DOC.md says, promise by
 * promise, what each call answers. Words in capitals are the document's.
 */
public final class CostsAge {
    public static final int NONE = -1, BAD = -2, STATE = -3, FULL = -4;
    public static final long NO = -4611686018427387904L;

    private static final int CANT = -5;
    private static final int MISSING = -11, OUTSIDE = -12, UNLIKE = -13, BELOW_ZERO = -14;

    private static final int MOST_BUYERS = 7, MOST_THINGS = 7, MOST_TEXTS = 6, MOST_SHEETS = 4;
    private static final int ALL_SETS = 1 << MOST_THINGS, ALL_CREWS = 1 << MOST_BUYERS;
    private static final int TAPE_SIZE = 160, SHEET_SIZE = 40, MOST_OPEN = 5, MOST_DIGITS = 4;
    private static final int WEEKS = 52, LAST_AHEAD = 103, LAST_YEAR = 99;
    private static final int OLDEST = 99, DEAREST_FEE = 99, LAST_NUMBER = 9;
    private static final int LARGEST = 9, MOST_VALUE = 999, MOST_CARRY = 63, FIRST_CARRY = 9;
    private static final int BOUND = 999;
    private static final int ROUNDS = 4, FEES_TRIED = 20;
    /** Above any COST. */
    private static final int NO_BAR = 1000000;

    private static final int CHILD = 1, ELDER = 2, BABY = 3, TWIN = 4, WIDOW = 5, KINDS = 6;
    /** The KIND that each KIND stands under. */
    private static final int[] UNDER = {NONE, 0, 0, CHILD, CHILD, ELDER};

    private static final int BYTES = 0, SHORTS = 1, INTS = 2;

    /** Where the scene holds what each NAME stands for. */
    private static final int AGE = 0, SIZE = 1, VALUE = 2, WEEK = 3, FEE = 4, OWN = 5, NAMES = 6;

    /** A text's code: a number is itself, a NAME -1 less its place in the scene, and these. */
    private static final int DO_NOT = -7, DO_MINUS = -8, DO_OR = -9, DO_AND = -10, DO_LESS = -11,
            DO_LIKE = -12, DO_ADD = -13, DO_TAKE = -14, DO_TIMES = -15;

    /** Kinds of TOKENS; a SIGN is its own byte, and all of those are above these. */
    private static final int WRONG = -1, END = 0, NUMBER = 1, NAME = 2, SERVES = 3, ADDS = 4,
            GAINS = 5, OR = 6, AND = 7, NOT = 8;

    private static final String FIRST_RULE =
            "serves size < 8 or 9 < age ; adds 0 ; gains value ;";

    private final Buyer[] buyers = new Buyer[MOST_BUYERS];
    private final Ware[] wares = new Ware[MOST_THINGS];
    private final Text[] texts = new Text[MOST_TEXTS];
    private final Sheet[] sheets = new Sheet[MOST_SHEETS];
    private final Reader reader = new Reader();
    private final Scene scene = new Scene();
    private final Plan plan = new Plan();
    private final Fees fees = new Fees();
    private final Standing now = new Standing();
    private final Standing kept = new Standing();
    private boolean hasImage;
    private int buyerCount;
    private int wareCount;
    private int textCount;

    public CostsAge() {
        for (int i = 0; i < MOST_BUYERS; i++) {
            buyers[i] = new Buyer();
        }
        for (int i = 0; i < MOST_THINGS; i++) {
            wares[i] = new Ware();
        }
        for (int i = 0; i < MOST_TEXTS; i++) {
            texts[i] = new Text();
        }
        for (int i = 0; i < MOST_SHEETS; i++) {
            sheets[i] = new Sheet();
        }
        now.carry = FIRST_CARRY;
        for (int i = 0; i < FIRST_RULE.length(); i++) {
            reader.append(FIRST_RULE.charAt(i));
        }
        reader.compile(texts[0]);
        textCount = 1;
    }

    // ---- buyers, things

    public int buyer(int kind, int what, int asks) {
        if (!isWithin(kind, KINDS - 1) || !isWithin(what, 100 * WEEKS - 1)
                || !isWithin(asks, 10 * DEAREST_FEE + LAST_NUMBER)) {
            return BAD;
        }
        if (buyerCount >= MOST_BUYERS) {
            return FULL;
        }
        Buyer one = buyers[buyerCount];
        one.kind = kind;
        one.born = what / 100;
        one.number = asks % 10;
        now.years[buyerCount] = what % 100;
        now.fees[buyerCount] = asks / 10;
        buyerCount++;
        return buyerCount - 1;
    }

    public int thing(int size, int value) {
        if (!isWithin(size, LARGEST) || !isWithin(value, MOST_VALUE)) {
            return BAD;
        }
        if (wareCount >= MOST_THINGS) {
            return FULL;
        }
        wares[wareCount].size = size;
        wares[wareCount].value = value;
        now.owners[wareCount] = NONE;
        wareCount++;
        return wareCount - 1;
    }

    public int set(int what, int of, int v) {
        switch (what) {
            case 0:
                return isBuyer(of) && isWithin(v, OLDEST) ? exchange(now.years, of, v) : BAD;
            case 1:
                return isBuyer(of) && isWithin(v, DEAREST_FEE) ? exchange(now.fees, of, v) : BAD;
            case 2:
                return isBuyer(of) && isWithin(v, WEEKS - 1) ? buyers[of].moveBirthday(v) : BAD;
            case 3:
                return isWare(of) && (v == NONE || isBuyer(v))
                        ? exchange(now.owners, of, v) : BAD;
            case 4:
                return isWithin(v, MOST_CARRY) ? changeCarry(v) : BAD;
            default:
                return BAD;
        }
    }

    public int told(int of, int what) {
        if (isWithin(what, 6)) {
            return isBuyer(of) ? tellOfBuyer(of, what) : BAD;
        }
        if (isWithin(what, 10)) {
            return isWare(of) ? tellOfWare(of, what) : BAD;
        }
        return BAD;
    }

    private int tellOfBuyer(int b, int what) {
        Buyer one = buyers[b];
        switch (what) {
            case 0:
                return one.kind;
            case 1:
                return now.years[b];
            case 2:
                return one.born;
            case 3:
                return now.fees[b];
            case 4:
                return one.number;
            case 5:
                return one.penceAt(now.years[b], now.week);
            default:
                return one.asksBy(now.fees[b]);
        }
    }

    private int tellOfWare(int t, int what) {
        switch (what) {
            case 7:
                return wares[t].size;
            case 8:
                return wares[t].value;
            case 9:
                return now.owners[t];
            default:
                return now.bought >> t & 1;
        }
    }

    private int changeCarry(int v) {
        int was = now.carry;
        now.carry = v;
        return was;
    }

    /** The callers have looked at the index. */
    private static int exchange(int[] row, int i, int v) {
        int was = row[i];
        row[i] = v;
        return was;
    }

    private static boolean isWithin(int v, int last) {
        return v >= 0 && v <= last;
    }

    private boolean isBuyer(int b) {
        return b >= 0 && b < buyerCount;
    }

    private boolean isWare(int t) {
        return t >= 0 && t < wareCount;
    }

    /** All things that aren't BOUGHT, as bits. */
    private int unbought() {
        return (1 << wareCount) - 1 & ~now.bought;
    }

    private static boolean has(int set, int i) {
        return (set >> i & 1) != 0;
    }

    // ---- texts

    public int feed(int letter) {
        if (!isWithin(letter, 255)) {
            return BAD;
        }
        return reader.append(letter) ? reader.size : FULL;
    }

    public int text() {
        if (textCount >= MOST_TEXTS) {
            return FULL;
        }
        int fault = reader.compile(texts[textCount]);
        if (fault != NONE) {
            return -100 - fault;
        }
        textCount++;
        return textCount - 1;
    }

    public int force(int text) {
        if (text < 0 || text >= textCount) {
            return BAD;
        }
        int was = now.rule;
        now.rule = text;
        return was;
    }

    // ---- prices

    public int years(int buyer, int n) {
        if (!isBuyer(buyer) || !isWithin(n, LAST_AHEAD)) {
            return BAD;
        }
        return buyers[buyer].ageIn(n, now.years[buyer], now.week);
    }

    public int cost(int buyer, int set, int n) {
        if (!isBuyer(buyer) || !isWithin(n, LAST_AHEAD) || !tie(set)) {
            return BAD;
        }
        return costBy(buyer, now.fees[buyer], n);
    }

    public int best(int set, int n, int what) {
        if (!isWithin(n, LAST_AHEAD) || !isWithin(what, 1) || !tie(set)) {
            return BAD;
        }
        int least = leastCost(n);
        if (least < 0) {
            return NONE;
        }
        return what == 1 ? least : firstBuyerFor(least, n);
    }

    public int when(int thing, int what) {
        if (!isWare(thing) || !isWithin(what, 1)) {
            return BAD;
        }
        if (!showAlone(thing)) {
            return STATE;
        }
        int week = NONE;
        int least = NONE;
        for (int n = 0; n <= LAST_AHEAD; n++) {
            int then = leastCost(n);
            if (then >= 0 && (least < 0 || then < least)) {
                week = n;
                least = then;
            }
        }
        return what == 0 ? week : least;
    }

    public int buy(int buyer, int set) {
        if (!isBuyer(buyer) || !tie(set)) {
            return BAD;
        }
        int price = priceBy(buyer, now.fees[buyer], 0);
        if (price < 0) {
            return STATE;
        }
        now.bought |= set;
        now.till += price;
        return price;
    }

    public int pass() {
        now.week++;
        if (now.week >= WEEKS) {
            now.week = 0;
            now.year = Math.min(LAST_YEAR, now.year + 1);
        }
        for (int b = 0; b < buyerCount; b++) {
            if (buyers[b].born == now.week) {
                now.years[b] = Math.min(OLDEST, now.years[b] + 1);
            }
        }
        return now.week;
    }

    /** Shows the scene a thing by itself; false: it is BOUGHT. */
    private boolean showAlone(int t) {
        if (has(now.bought, t)) {
            return false;
        }
        scene.show(wares[t].size, wares[t].value, now.owners[t]);
        return true;
    }

    /** Shows the scene the things of a set as one; false: they can't be TIED. */
    private boolean tie(int set) {
        if (set == 0 || (set & ~unbought()) != 0) {
            return false;
        }
        int size = 0;
        int value = 0;
        int count = 0;
        int owner = NONE;
        for (int t = 0; t < wareCount; t++) {
            if (has(set, t)) {
                size += wares[t].size;
                value += wares[t].value;
                owner = count == 0 || owner == now.owners[t] ? now.owners[t] : NONE;
                count++;
            }
        }
        scene.show(size, value, owner);
        return count == 1 || size <= now.carry;
    }

    /** PENCE and adds for what is tied, in n WEEKS; CANT: the shop doesn't serve that one so. */
    private int priceBy(int b, int fee, int n) {
        int week = (now.week + n) % WEEKS;
        int age = buyers[b].ageIn(n, now.years[b], now.week);
        scene.names[AGE] = age;
        scene.names[WEEK] = week;
        scene.names[FEE] = fee;
        scene.names[OWN] = scene.owner == b ? 1 : 0;
        Text text = texts[now.rule];
        if (scene.worth(text.code, 0, text.servesEnd) == 0) {
            return CANT;
        }
        int adds = scene.worth(text.code, text.servesEnd, text.addsEnd);
        return buyers[b].penceAt(age, week) + held(adds);
    }

    /** COST of what is tied, in n WEEKS, if the buyer's FEE is this; or CANT. */
    private int costBy(int b, int fee, int n) {
        int price = priceBy(b, fee, n);
        return price < 0 || scene.owner == b ? price : price + buyers[b].asksBy(fee);
    }

    /** The least COST of what is tied by any BUYER; CANT: nobody can. */
    private int leastCost(int n) {
        int least = CANT;
        for (int b = 0; b < buyerCount; b++) {
            int cost = costBy(b, now.fees[b], n);
            if (cost >= 0 && (least < 0 || cost < least)) {
                least = cost;
            }
        }
        return least;
    }

    private int firstBuyerFor(int cost, int n) {
        for (int b = 0; b < buyerCount; b++) {
            if (costBy(b, now.fees[b], n) == cost) {
                return b;
            }
        }
        return NONE;
    }

    private static int held(int v) {
        return Math.max(0, Math.min(BOUND, v));
    }

    // ---- all of it

    public int all(int what) {
        if (!isWithin(what, 1)) {
            return BAD;
        }
        planAll();
        int rest = unbought();
        if (plan.total[rest] < 0) {
            return NONE;
        }
        return what == 0 ? plan.total[rest] : plan.heaps[rest];
    }

    public int heap(int thing) {
        if (!isWare(thing)) {
            return BAD;
        }
        if (has(now.bought, thing)) {
            return STATE;
        }
        planAll();
        return plan.heapOf(thing, unbought());
    }

    private void planAll() {
        int open = unbought();
        for (int set = 1; set <= open; set++) {
            if ((set & ~open) == 0) {
                plan.price[set] = tie(set) ? leastCost(0) : CANT;
                plan.choose(set);
            }
        }
    }

    public int eachOne() {
        fillCosts();
        int open = unbought();
        int many = Integer.bitCount(open);
        int least = NONE;
        for (int crew = 0; crew < 1 << buyerCount; crew++) {
            int cost = crewCost(crew, open, many);
            plan.crew[crew] = cost;
            if (cost >= 0 && Integer.bitCount(crew) == many && (least < 0 || cost < least)) {
                least = cost;
            }
        }
        return least;
    }

    /** The least COST if just this crew buys the first things, a thing each; or CANT. */
    private int crewCost(int crew, int open, int many) {
        int size = Integer.bitCount(crew);
        if (size == 0) {
            return 0;
        }
        int last = size > many ? NONE : nthOf(open, size);
        int least = CANT;
        for (int b = 0; b < buyerCount && last >= 0; b++) {
            if (!has(crew, b)) {
                continue;
            }
            int ahead = plan.crew[crew ^ 1 << b];
            int own = fees.costs[b * MOST_THINGS + last];
            if (ahead >= 0 && own >= 0 && (least < 0 || ahead + own < least)) {
                least = ahead + own;
            }
        }
        return least;
    }

    /** The nth thing (from 1) of a set. */
    private int nthOf(int set, int n) {
        int seen = 0;
        for (int t = 0; t < wareCount; t++) {
            if (has(set, t)) {
                seen++;
            }
            if (seen == n) {
                return t;
            }
        }
        return NONE;
    }

    public long gain(int thing, int what) {
        if (!isWare(thing) || !isWithin(what, 1) || !showAlone(thing)) {
            return NO;
        }
        int who = NONE;
        int most = 0;
        for (int b = 0; b < buyerCount; b++) {
            int cost = costBy(b, now.fees[b], 0);
            if (cost < 0) {
                continue;
            }
            int gain = gainsNow() - cost;
            if (who < 0 || gain > most) {
                who = b;
                most = gain;
            }
        }
        if (who < 0) {
            return NO;
        }
        return what == 0 ? most : who;
    }

    /** gains of what costBy() has just put into the scene. */
    private int gainsNow() {
        Text text = texts[now.rule];
        return held(scene.worth(text.code, text.addsEnd, text.gainsEnd));
    }

    public int year() {
        int sum = 0;
        for (int t = 0; t < wareCount; t++) {
            if (showAlone(t)) {
                sum += Math.max(0, leastInYear());
            }
        }
        return sum;
    }

    private int leastInYear() {
        int least = CANT;
        for (int n = 0; n < WEEKS; n++) {
            int then = leastCost(n);
            if (then >= 0 && (least < 0 || then < least)) {
                least = then;
            }
        }
        return least;
    }

    public int rest(int buyer) {
        if (!isBuyer(buyer)) {
            return BAD;
        }
        fillCosts();
        for (int b = 0; b < buyerCount; b++) {
            fees.asked[b] = now.fees[b];
        }
        boolean goesOn = true;
        for (int round = 0; round < ROUNDS && goesOn; round++) {
            goesOn = false;
            for (int b = 0; b < buyerCount; b++) {
                goesOn |= takesBetterFee(b);
            }
        }
        return fees.asked[buyer];
    }

    private boolean takesBetterFee(int b) {
        fees.setBars(b, buyerCount, wareCount);
        int fee = fees.asked[b];
        int most = earnsBy(b, fee);
        for (int f = 0; f <= FEES_TRIED; f++) {
            int earned = earnsBy(b, f);
            if (earned > most) {
                most = earned;
                fee = f;
            }
        }
        // A fee that is taken always EARNS more, so it can't be the one that stood.
        if (fee == fees.asked[b]) {
            return false;
        }
        fees.asked[b] = fee;
        fillCostsOf(b, fee);
        return true;
    }

    private int earnsBy(int b, int fee) {
        int asks = buyers[b].asksBy(fee);
        int sum = 0;
        for (int t = 0; t < wareCount; t++) {
            if (now.owners[t] != b && showAlone(t)) {
                int cost = costBy(b, fee, 0);
                sum += cost >= 0 && cost <= fees.bars[t] ? asks : 0;
            }
        }
        return sum;
    }

    private void fillCosts() {
        for (int b = 0; b < buyerCount; b++) {
            fillCostsOf(b, now.fees[b]);
        }
    }

    private void fillCostsOf(int b, int fee) {
        for (int t = 0; t < wareCount; t++) {
            fees.costs[b * MOST_THINGS + t] = showAlone(t) ? costBy(b, fee, 0) : CANT;
        }
    }

    public int lies(int sheet) {
        if (!isSheet(sheet)) {
            return BAD;
        }
        Sheet told = sheets[sheet];
        if (told.isMissing()) {
            return MISSING;
        }
        if (told.size != buyerCount) {
            return BAD;
        }
        int liars = 0;
        for (int b = 0; b < buyerCount; b++) {
            liars |= told.cells[b] == now.years[b] ? 0 : 1 << b;
        }
        return liars;
    }

    public int judge(int sheet, int what) {
        if (!isSheet(sheet) || !isWithin(what, 1)) {
            return BAD;
        }
        Sheet list = sheets[sheet];
        if (list.isMissing()) {
            return MISSING;
        }
        if (list.size % 2 != 0) {
            return BAD;
        }
        int paid = 0;
        int gone = 0;
        for (int i = 0; i + 1 < list.size; i += 2) {
            int t = list.cells[i + 1];
            int price = priceOfRow(list.cells[i], t, gone);
            if (price < 0) {
                return what == 0 ? i / 2 : paid;
            }
            paid += price;
            gone |= 1 << t;
        }
        return what == 0 ? NONE : paid;
    }

    /** What a row of the clerk's list pays when the things of gone are bought too; or CANT. */
    private int priceOfRow(int b, int t, int gone) {
        if (!isBuyer(b) || !isWare(t) || has(gone, t) || !showAlone(t)) {
            return CANT;
        }
        return priceBy(b, now.fees[b], 0);
    }

    public int drawn(int seed) {
        if (buyerCount == 0) {
            return NONE;
        }
        int z = seed;
        int taken = 0;
        for (int t = 0; t < wareCount; t++) {
            if (showAlone(t)) {
                z = z * 1103515245 + 12345;
                int b = (z >>> 10) % buyerCount;
                taken += Math.max(0, priceBy(b, now.fees[b], 0));
            }
        }
        return taken;
    }

    public long mean(int part) {
        if (!isWithin(part, 1) || buyerCount == 0) {
            return NO;
        }
        int sum = 0;
        for (int b = 0; b < buyerCount; b++) {
            sum += now.years[b];
        }
        int common = buyerCount;
        while (common > 1 && (sum % common != 0 || buyerCount % common != 0)) {
            common--;
        }
        return (part == 0 ? sum : buyerCount) / common;
    }

    public int image() {
        kept.become(now, buyerCount, wareCount);
        kept.buyerCount = buyerCount;
        kept.wareCount = wareCount;
        hasImage = true;
        return now.week;
    }

    public int back() {
        if (!hasImage) {
            return STATE;
        }
        now.become(kept, kept.buyerCount, kept.wareCount);
        return now.week;
    }

    public int count(int what) {
        switch (what) {
            case 0:
                return buyerCount;
            case 1:
                return wareCount;
            case 2:
                return Integer.bitCount(unbought());
            case 3:
                return now.week;
            case 4:
                return now.year;
            case 5:
                return now.till;
            case 6:
                return now.carry;
            case 7:
                return textCount;
            case 8:
                return reader.size;
            case 9:
                return now.rule;
            default:
                return BAD;
        }
    }

    // ---- the host

    public int sheet(int sheet, int sort, int n) {
        if (!isSheet(sheet) || sort != NONE && !isSort(sort)) {
            return BAD;
        }
        if (sort == NONE) {
            sheets[sheet].become(NONE, 0);
            return 1;
        }
        if (n > SHEET_SIZE) {
            return BAD;
        }
        if (n < 0) {
            return BELOW_ZERO;
        }
        sheets[sheet].become(sort, n);
        return 1;
    }

    public int cell(int sheet, int i, int v) {
        if (!isSheet(sheet)) {
            return BAD;
        }
        Sheet row = sheets[sheet];
        if (row.isMissing()) {
            return MISSING;
        }
        if (!row.reaches(i)) {
            return OUTSIDE;
        }
        row.write(i, v);
        return 1;
    }

    public int copy(int sheet, int i, int other, int j, int n) {
        if (!isSheet(sheet) || !isSheet(other)) {
            return BAD;
        }
        Sheet from = sheets[sheet];
        Sheet to = sheets[other];
        if (from.isMissing() || to.isMissing()) {
            return MISSING;
        }
        if (from.sort != to.sort) {
            return UNLIKE;
        }
        if (!from.spans(i, n) || !to.spans(j, n)) {
            return OUTSIDE;
        }
        System.arraycopy(from.cells, i, to.cells, j, n);
        return n;
    }

    public int things(int sheet, int sort, int from, int n) {
        if (!isSheet(sheet) || !isSort(sort) || !isWithin(n, MOST_THINGS)) {
            return BAD;
        }
        Sheet row = sheets[sheet];
        if (row.isMissing()) {
            return MISSING;
        }
        if (row.sort != sort) {
            return UNLIKE;
        }
        int came = 0;
        int at = from;
        for (int k = 0; k < n; k++) {
            if (!row.spans(at, 2)) {
                return OUTSIDE;
            }
            came += thing(row.cells[at], row.cells[at + 1]) >= 0 ? 1 : 0;
            at += 2;
        }
        return came;
    }

    public int taken(int buyer, int k) {
        if (!isWithin(k, KINDS - 1)) {
            return BAD;
        }
        if (!isBuyer(buyer)) {
            return MISSING;
        }
        return buyers[buyer].isOf(k) ? buyers[buyer].number : UNLIKE;
    }

    private static boolean isSheet(int sheet) {
        return sheet >= 0 && sheet < MOST_SHEETS;
    }

    private static boolean isSort(int sort) {
        return sort >= BYTES && sort <= INTS;
    }

    /** What never changes of a BUYER but by set(). */
    private static final class Buyer {
        private int kind;
        private int born;
        private int number;

        private int moveBirthday(int week) {
            int was = born;
            born = week;
            return was;
        }

        private boolean isOf(int k) {
            int at = kind;
            for (int i = 0; i < KINDS && at >= 0 && at < KINDS; i++) {
                if (at == k) {
                    return true;
                }
                at = UNDER[at];
            }
            return false;
        }

        private int ageIn(int n, int years, int week) {
            // The WEEK that it is now has been counted: its like comes in a year only.
            int ahead = born > week ? born - week : born - week + WEEKS;
            int more = n < ahead ? 0 : 1 + (n - ahead) / WEEKS;
            return Math.min(OLDEST, years + more);
        }

        private int penceAt(int age, int week) {
            int child = Math.max(3, age);
            int elder = age - Math.max(0, age - 60) / 2;
            switch (kind) {
                case CHILD:
                    return child;
                case ELDER:
                    return elder;
                case BABY:
                    return 2 * child;
                case TWIN:
                    return week % 4 == number % 4 ? child + 1 : child;
                case WIDOW:
                    return Math.max(0, elder - number);
                default:
                    return age;
            }
        }

        private int asksBy(int fee) {
            switch (kind) {
                case CHILD:
                case TWIN:
                    return fee / 2;
                case BABY:
                    return fee / 2 + 5;
                case WIDOW:
                    return 2 * fee + number;
                default:
                    return fee;
            }
        }
    }

    /** What never changes of a THING. */
    private static final class Ware {
        private int size;
        private int value;
    }

    /** All that AN IMAGE keeps: one is as it stands now, one is THE IMAGE. */
    private static final class Standing {
        private final int[] years = new int[MOST_BUYERS];
        private final int[] fees = new int[MOST_BUYERS];
        private final int[] owners = new int[MOST_THINGS];
        private int bought;
        private int week;
        private int year;
        private int till;
        private int carry;
        private int rule;
        private int buyerCount;
        private int wareCount;

        /** Takes the other's, but only of the first BUYERS and THINGS: those behind them stay. */
        private void become(Standing other, int buyers, int things) {
            System.arraycopy(other.years, 0, years, 0, buyers);
            System.arraycopy(other.fees, 0, fees, 0, buyers);
            System.arraycopy(other.owners, 0, owners, 0, things);
            int first = (1 << things) - 1;
            bought = bought & ~first | other.bought & first;
            week = other.week;
            year = other.year;
            till = other.till;
            carry = other.carry;
            rule = other.rule;
        }
    }

    /** Room in which ALL and EACH ONE are worked out, by sets as bits. */
    private static final class Plan {
        private final int[] price = new int[ALL_SETS];
        private final int[] total = new int[ALL_SETS];
        private final int[] heaps = new int[ALL_SETS];
        private final int[] first = new int[ALL_SETS];
        private final int[] crew = new int[ALL_CREWS];

        /** Finds the best way for a set, those of all sets inside it being known. */
        private void choose(int set) {
            int low = set & -set;
            int others = set ^ low;
            total[set] = CANT;
            int some = 0;
            // Heaps come by rising bits, so of like ways the one that stands is right.
            for (int left = 1 << Integer.bitCount(others); left > 0; left--) {
                tryHeap(set, low | some);
                some = some - others & others;
            }
        }

        private void tryHeap(int set, int heap) {
            int behind = set ^ heap;
            if (price[heap] < 0 || total[behind] < 0) {
                return;
            }
            int cost = price[heap] + total[behind];
            int many = 1 + heaps[behind];
            if (total[set] < 0 || cost < total[set]
                    || cost == total[set] && many < heaps[set]) {
                total[set] = cost;
                heaps[set] = many;
                first[set] = heap;
            }
        }

        private int heapOf(int thing, int open) {
            int set = open;
            if (total[set] < 0) {
                return NONE;
            }
            for (int i = 0; i < MOST_THINGS && set != 0; i++) {
                if (has(first[set], thing)) {
                    return first[set];
                }
                set ^= first[set];
            }
            return NONE;
        }
    }

    /** Room for COSTS of things each alone, and for FEES AT REST. */
    private static final class Fees {
        private final int[] costs = new int[MOST_BUYERS * MOST_THINGS];
        private final int[] asked = new int[MOST_BUYERS];
        private final int[] bars = new int[MOST_THINGS];

        /** A bar is the highest COST by which a BUYER is still BEST for a thing. */
        private void setBars(int b, int buyers, int things) {
            for (int t = 0; t < things; t++) {
                int bar = NO_BAR;
                for (int c = 0; c < buyers; c++) {
                    int cost = costs[c * MOST_THINGS + t];
                    if (c != b && cost >= 0) {
                        // Of like ones the first is BEST.
                        bar = Math.min(bar, c < b ? cost - 1 : cost);
                    }
                }
                bars[t] = bar;
            }
        }
    }

    /** A row of numbers; its cells hold ints, cut to the sort as they are written. */
    private static final class Sheet {
        private final int[] cells = new int[SHEET_SIZE];
        private int sort = NONE;
        private int size;

        private boolean isMissing() {
            return sort == NONE;
        }

        private void become(int newSort, int newSize) {
            sort = newSort;
            size = newSize;
            for (int i = 0; i < SHEET_SIZE; i++) {
                cells[i] = 0;
            }
        }

        private boolean reaches(int i) {
            return i >= 0 && i < size;
        }

        private boolean spans(int i, int n) {
            return n >= 0 && n <= size && i >= 0 && i <= size - n;
        }

        private void write(int i, int v) {
            if (sort == BYTES) {
                cells[i] = (byte) v;
            } else if (sort == SHORTS) {
                cells[i] = (short) v;
            } else {
                cells[i] = v;
            }
        }
    }

    /** A TEXT's three E's one behind the other, each as code for a stack. */
    private static final class Text {
        private final int[] code = new int[TAPE_SIZE];
        private int servesEnd;
        private int addsEnd;
        private int gainsEnd;
    }

    /** What the NAMES stand for, and the stack on which an E is worked out. */
    private static final class Scene {
        private final int[] names = new int[NAMES];
        private final int[] stack = new int[TAPE_SIZE];
        /** Whom all that is tied is OWN to. */
        private int owner = NONE;

        private void show(int size, int value, int whose) {
            names[SIZE] = size;
            names[VALUE] = value;
            owner = whose;
        }

        private int worth(int[] code, int from, int to) {
            // Each piece of code puts one number at the most: the stack has room for all.
            int top = -1;
            for (int i = from; i < to && i < code.length && top + 1 < stack.length; i++) {
                int piece = code[i];
                if (piece >= -NAMES) {
                    top++;
                    stack[top] = piece >= 0 ? piece : names[-1 - piece];
                } else if (top >= 0 && piece == DO_NOT) {
                    stack[top] = stack[top] == 0 ? 1 : 0;
                } else if (top >= 0 && piece == DO_MINUS) {
                    stack[top] = -stack[top];
                } else if (top >= 1) {
                    top--;
                    stack[top] = joined(piece, stack[top], stack[top + 1]);
                }
            }
            return top < 0 ? 0 : stack[top];
        }

        private static int joined(int piece, int a, int b) {
            switch (piece) {
                case DO_OR:
                    return a != 0 || b != 0 ? 1 : 0;
                case DO_AND:
                    return a != 0 && b != 0 ? 1 : 0;
                case DO_LESS:
                    return a < b ? 1 : 0;
                case DO_LIKE:
                    return a == b ? 1 : 0;
                case DO_ADD:
                    return a + b;
                case DO_TAKE:
                    return a - b;
                default:
                    return a * b;
            }
        }
    }

    /** THE TAPE, and how a TEXT is read from it. */
    private static final class Reader {
        private final int[] tape = new int[TAPE_SIZE];
        private int size;
        /** The first byte behind the TOKEN. */
        private int at;
        /** The first byte of the TOKEN. */
        private int place;
        private int token;
        /** What a NUMBER or a NAME is in code. */
        private int piece;
        private int fault;
        private int length;

        private boolean append(int letter) {
            if (size >= TAPE_SIZE) {
                return false;
            }
            tape[size] = letter;
            size++;
            return true;
        }

        /** Answers the place of the FAULT, or NONE. */
        private int compile(Text text) {
            at = 0;
            length = 0;
            fault = NONE;
            advance();
            text.servesEnd = readPart(SERVES, text.code);
            text.addsEnd = readPart(ADDS, text.code);
            text.gainsEnd = readPart(GAINS, text.code);
            if (token != END) {
                refuse();
            }
            size = 0;
            return fault;
        }

        private int readPart(int key, int[] code) {
            expect(key);
            readE(code, 0);
            expect(';');
            return length;
        }

        /** E; open: how many ( , not and - stand open around it. */
        private void readE(int[] code, int open) {
            readAnd(code, open);
            for (int i = 0; i < TAPE_SIZE && token == OR; i++) {
                advance();
                readAnd(code, open);
                put(code, DO_OR);
            }
        }

        private void readAnd(int[] code, int open) {
            readNot(code, open);
            for (int i = 0; i < TAPE_SIZE && token == AND; i++) {
                advance();
                readNot(code, open);
                put(code, DO_AND);
            }
        }

        private void readNot(int[] code, int open) {
            if (token == NOT) {
                if (mayOpen(open)) {
                    advance();
                    readNot(code, open + 1);
                    put(code, DO_NOT);
                }
                return;
            }
            readSum(code, open);
            if (token == '<' || token == '=') {
                int sign = token == '<' ? DO_LESS : DO_LIKE;
                advance();
                readSum(code, open);
                put(code, sign);
            }
        }

        private void readSum(int[] code, int open) {
            readTerm(code, open);
            for (int i = 0; i < TAPE_SIZE && (token == '+' || token == '-'); i++) {
                int sign = token == '+' ? DO_ADD : DO_TAKE;
                advance();
                readTerm(code, open);
                put(code, sign);
            }
        }

        private void readTerm(int[] code, int open) {
            readOne(code, open);
            for (int i = 0; i < TAPE_SIZE && token == '*'; i++) {
                advance();
                readOne(code, open);
                put(code, DO_TIMES);
            }
        }

        private void readOne(int[] code, int open) {
            if (token == NUMBER || token == NAME) {
                put(code, piece);
                advance();
            } else if (token == '-') {
                if (mayOpen(open)) {
                    advance();
                    readOne(code, open + 1);
                    put(code, DO_MINUS);
                }
            } else if (token == '(') {
                if (mayOpen(open)) {
                    advance();
                    readE(code, open + 1);
                    expect(')');
                }
            } else {
                refuse();
            }
        }

        /** Whether one more ( , not or - may be open; refuses it, if not. */
        private boolean mayOpen(int open) {
            if (open >= MOST_OPEN) {
                refuse();
            }
            return open < MOST_OPEN;
        }

        private void expect(int wanted) {
            if (token == wanted) {
                advance();
            } else {
                refuse();
            }
        }

        /** From here on no TOKEN is any that is asked for, so that reading ends. */
        private void refuse() {
            if (fault == NONE) {
                fault = place;
            }
            token = WRONG;
        }

        private void put(int[] code, int what) {
            if (length < code.length) {
                code[length] = what;
                length++;
            }
        }

        private void advance() {
            while (at < size && (tape[at] == ' ' || tape[at] == '\n')) {
                at++;
            }
            place = at;
            if (at >= size) {
                token = END;
            } else if (isLetter(tape[at])) {
                takeWord();
            } else if (isDigit(tape[at])) {
                takeNumber();
            } else {
                token = isSign(tape[at]) ? tape[at] : WRONG;
                at++;
            }
        }

        private void takeWord() {
            while (at < size && isLetter(tape[at])) {
                at++;
            }
            int name = stands("age") ? AGE : stands("size") ? SIZE : stands("value") ? VALUE
                    : stands("week") ? WEEK : stands("fee") ? FEE : stands("own") ? OWN : NONE;
            if (name != NONE) {
                token = NAME;
                piece = -1 - name;
                return;
            }
            token = stands("serves") ? SERVES : stands("adds") ? ADDS : stands("gains") ? GAINS
                    : stands("or") ? OR : stands("and") ? AND : stands("not") ? NOT : WRONG;
        }

        private void takeNumber() {
            piece = 0;
            while (at < size && isDigit(tape[at])) {
                piece = 10 * piece + tape[at] - '0';
                at++;
            }
            token = at - place > MOST_DIGITS ? WRONG : NUMBER;
        }

        /** Whether the WORD from place till at is this one. */
        private boolean stands(String word) {
            if (at - place != word.length()) {
                return false;
            }
            for (int i = 0; i < word.length(); i++) {
                if (tape[place + i] != word.charAt(i)) {
                    return false;
                }
            }
            return true;
        }

        private static boolean isLetter(int letter) {
            return letter >= 'a' && letter <= 'z';
        }

        private static boolean isDigit(int letter) {
            return letter >= '0' && letter <= '9';
        }

        private static boolean isSign(int letter) {
            return letter == '(' || letter == ')' || letter == ';' || letter == '+'
                    || letter == '-' || letter == '*' || letter == '<' || letter == '=';
        }
    }
}
