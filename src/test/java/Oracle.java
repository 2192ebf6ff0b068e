import java.util.ArrayDeque;
import java.util.ArrayList;
import java.util.Arrays;
import java.util.Deque;
import java.util.HashMap;
import java.util.List;
import java.util.Map;
import java.util.function.ToIntFunction;
import java.util.regex.Matcher;
import java.util.regex.Pattern;

/**
 * The document again, in another way and with no thought of speed: kinds are classes, sheets are
 * Java's own rows with Java's own refusals, weeks are counted one by one, all ways are tried.
 */
final class Oracle {
    static final int NONE = -1, BAD = -2, STATE = -3, FULL = -4;
    static final long NO = -4611686018427387904L;

    static class Buyer {
        int kind, born, years, fee, number;

        int pence(int y, int w) {
            return y;
        }

        int asks(int f) {
            return f;
        }
    }

    static class Child extends Buyer {
        int pence(int y, int w) {
            return y < 3 ? 3 : y;
        }

        int asks(int f) {
            return super.asks(f) / 2;
        }
    }

    static class Elder extends Buyer {
        int pence(int y, int w) {
            return y > 60 ? super.pence(y, w) - (y - 60) / 2 : super.pence(y, w);
        }
    }

    static class Baby extends Child {
        int pence(int y, int w) {
            return super.pence(y, w) * 2;
        }

        int asks(int f) {
            return super.asks(f) + 5;
        }
    }

    static class Twin extends Child {
        int pence(int y, int w) {
            return super.pence(y, w) + (Math.floorMod(w - number, 4) == 0 ? 1 : 0);
        }
    }

    static class Widow extends Elder {
        int pence(int y, int w) {
            return super.pence(y, w) - number;
        }

        int asks(int f) {
            return 2 * super.asks(f) + number;
        }
    }

    static final List<Class<?>> KINDS = List.of(Buyer.class, Child.class, Elder.class, Baby.class,
            Twin.class, Widow.class);

    static class Thing {
        int size, value, own = NONE;
        boolean bought;
    }

    static class Picture {
        final List<int[]> buyers = new ArrayList<>();
        final List<int[]> things = new ArrayList<>();
        int week, year, till, carry, rule;
    }

    record Names(int age, int size, int value, int week, int fee, int own) {
    }

    record Text(ToIntFunction<Names> serves, ToIntFunction<Names> adds,
            ToIntFunction<Names> gains) {
    }

    static final class Fault extends RuntimeException {
        final int place;

        Fault(int place) {
            this.place = place;
        }
    }

    private final List<Buyer> buyers = new ArrayList<>();
    private final List<Thing> things = new ArrayList<>();
    private final List<Text> texts = new ArrayList<>();
    private final Object[] sheets = new Object[4];
    private String tape = "";
    private int week, year, till, carry = 9, rule;
    private Picture picture;

    Oracle() {
        texts.add(parse("serves size < 8 or 9 < age ; adds 0 ; gains value ;"));
    }

    private static boolean in(int v, int from, int to) {
        return from <= v && v <= to;
    }

    private boolean noBuyer(int b) {
        return !in(b, 0, buyers.size() - 1);
    }

    private boolean noThing(int t) {
        return !in(t, 0, things.size() - 1);
    }

    int buyer(int kind, int what, int asks) {
        if (!in(kind, 0, 5) || !in(what, 0, 5199) || !in(asks, 0, 999)) {
            return BAD;
        }
        if (buyers.size() == 7) {
            return FULL;
        }
        Buyer b = switch (kind) {
            case 1 -> new Child();
            case 2 -> new Elder();
            case 3 -> new Baby();
            case 4 -> new Twin();
            case 5 -> new Widow();
            default -> new Buyer();
        };
        b.kind = kind;
        b.born = what / 100;
        b.years = what % 100;
        b.fee = asks / 10;
        b.number = asks % 10;
        buyers.add(b);
        return buyers.size() - 1;
    }

    int thing(int size, int value) {
        if (!in(size, 0, 9) || !in(value, 0, 999)) {
            return BAD;
        }
        if (things.size() == 7) {
            return FULL;
        }
        Thing t = new Thing();
        t.size = size;
        t.value = value;
        things.add(t);
        return things.size() - 1;
    }

    int set(int what, int of, int v) {
        int was;
        if (what == 4) {
            if (!in(v, 0, 63)) {
                return BAD;
            }
            was = carry;
            carry = v;
            return was;
        }
        if (what == 3) {
            if (noThing(of) || v != NONE && noBuyer(v)) {
                return BAD;
            }
            was = things.get(of).own;
            things.get(of).own = v;
            return was;
        }
        if (!in(what, 0, 2) || noBuyer(of) || !in(v, 0, what == 2 ? 51 : 99)) {
            return BAD;
        }
        Buyer b = buyers.get(of);
        was = what == 0 ? b.years : what == 1 ? b.fee : b.born;
        if (what == 0) {
            b.years = v;
        } else if (what == 1) {
            b.fee = v;
        } else {
            b.born = v;
        }
        return was;
    }

    int told(int of, int what) {
        if (in(what, 0, 6) && !noBuyer(of)) {
            Buyer b = buyers.get(of);
            int[] all = {b.kind, b.years, b.born, b.fee, b.number,
                Math.max(0, b.pence(b.years, week)), Math.max(0, b.asks(b.fee))};
            return all[what];
        }
        if (in(what, 7, 10) && !noThing(of)) {
            Thing t = things.get(of);
            int[] all = {t.size, t.value, t.own, t.bought ? 1 : 0};
            return all[what - 7];
        }
        return BAD;
    }

    int feed(int letter) {
        if (!in(letter, 0, 255)) {
            return BAD;
        }
        if (tape.length() == 160) {
            return FULL;
        }
        tape += (char) letter;
        return tape.length();
    }

    int text() {
        if (texts.size() == 6) {
            return FULL;
        }
        String read = tape;
        tape = "";
        try {
            texts.add(parse(read));
            return texts.size() - 1;
        } catch (Fault f) {
            return -100 - f.place;
        }
    }

    int force(int text) {
        if (!in(text, 0, texts.size() - 1)) {
            return BAD;
        }
        int was = rule;
        rule = text;
        return was;
    }

    // ---- a text is read by operators and what waits for them, not by the grammar's rules

    record Token(String word, int place) {
    }

    private static final Pattern TOKEN = Pattern.compile("[a-z]+|[0-9]+|[();+\\-*<=]");

    private static Text parse(String text) {
        List<Token> tokens = new ArrayList<>();
        int at = 0;
        while (at < text.length()) {
            if (text.charAt(at) == ' ' || text.charAt(at) == '\n') {
                at++;
                continue;
            }
            Matcher m = TOKEN.matcher(text).region(at, text.length());
            String word = m.lookingAt() ? m.group() : "?";
            tokens.add(new Token(word, at));
            at += word.length();
        }
        tokens.add(new Token("", text.length()));
        Deque<Token> left = new ArrayDeque<>(tokens);
        List<ToIntFunction<Names>> parts = new ArrayList<>();
        for (String key : List.of("serves", "adds", "gains")) {
            want(left, key);
            parts.add(new Sum().read(left));
        }
        want(left, "");
        return new Text(parts.get(0), parts.get(1), parts.get(2));
    }

    private static void want(Deque<Token> left, String word) {
        Token t = left.pop();
        if (!t.word.equals(word)) {
            throw new Fault(t.place);
        }
    }

    /** One E with the ; behind it. */
    private static final class Sum {
        private final Deque<ToIntFunction<Names>> done = new ArrayDeque<>();
        private final Deque<String> waiting = new ArrayDeque<>();
        private boolean wantsOne = true;
        private boolean mayNot = true;
        private final Deque<Boolean> compared = new ArrayDeque<>(List.of(false));

        ToIntFunction<Names> read(Deque<Token> left) {
            while (true) {
                Token t = left.pop();
                boolean fits = wantsOne ? takeOne(t.word) : takeSign(t.word);
                if (!fits) {
                    throw new Fault(t.place);
                }
                if (t.word.equals(";")) {
                    return done.pop();
                }
            }
        }

        private long open() {
            return waiting.stream().filter(w -> List.of("(", "not", "neg").contains(w)).count();
        }

        private boolean takeOne(String word) {
            if (word.equals("(") || word.equals("-") || word.equals("not") && mayNot) {
                if (open() == 5) {
                    return false;
                }
                waiting.push(word.equals("-") ? "neg" : word);
                if (word.equals("(")) {
                    compared.push(false);
                }
                mayNot = !word.equals("-");
                return true;
            }
            ToIntFunction<Names> one = one(word);
            if (one == null) {
                return false;
            }
            done.push(one);
            oneEnds();
            return true;
        }

        private void oneEnds() {
            wantsOne = false;
            while ("neg".equals(waiting.peek())) {
                apply(waiting.pop());
            }
        }

        private static ToIntFunction<Names> one(String word) {
            if (word.matches("[0-9]{1,4}")) {
                int n = Integer.parseInt(word);
                return x -> n;
            }
            return switch (word) {
                case "age" -> Names::age;
                case "size" -> Names::size;
                case "value" -> Names::value;
                case "week" -> Names::week;
                case "fee" -> Names::fee;
                case "own" -> Names::own;
                default -> null;
            };
        }

        private boolean takeSign(String word) {
            if (word.equals(")") && !waiting.contains("(") || word.equals(";") && waiting.contains("(")) {
                return false;
            }
            int rank = rank(word);
            if (rank < 0 || word.equals("not") || rank == 3 && compared.peek()) {
                return false;
            }
            while (!waiting.isEmpty() && !waiting.peek().equals("(") && rank(waiting.peek()) >= rank) {
                apply(waiting.pop());
            }
            if (word.equals(";")) {
                return true;
            }
            if (word.equals(")")) {
                waiting.pop();
                compared.pop();
                oneEnds();
                return true;
            }
            if (rank <= 3) {
                compared.pop();
                compared.push(rank == 3);
            }
            waiting.push(word);
            wantsOne = true;
            mayNot = rank < 3;
            return true;
        }

        private static int rank(String word) {
            return switch (word) {
                case ";", ")" -> 0;
                case "or" -> 1;
                case "and" -> 2;
                case "<", "=" -> 3;
                case "+", "-" -> 4;
                case "*" -> 5;
                case "not" -> 2;
                default -> -1;
            };
        }

        private void apply(String word) {
            ToIntFunction<Names> b = done.pop();
            if (word.equals("neg")) {
                done.push(x -> -b.applyAsInt(x));
                return;
            }
            if (word.equals("not")) {
                done.push(x -> b.applyAsInt(x) == 0 ? 1 : 0);
                return;
            }
            ToIntFunction<Names> a = done.pop();
            done.push(x -> {
                int p = a.applyAsInt(x);
                int q = b.applyAsInt(x);
                return switch (word) {
                    case "or" -> p != 0 || q != 0 ? 1 : 0;
                    case "and" -> p != 0 && q != 0 ? 1 : 0;
                    case "<" -> p < q ? 1 : 0;
                    case "=" -> p == q ? 1 : 0;
                    case "+" -> p + q;
                    case "-" -> p - q;
                    default -> p * q;
                };
            });
        }
    }

    // ---- prices

    int years(int buyer, int n) {
        if (noBuyer(buyer) || !in(n, 0, 103)) {
            return BAD;
        }
        int y = buyers.get(buyer).years;
        int w = week;
        for (int i = 0; i < n; i++) {
            w = w == 51 ? 0 : w + 1;
            if (w == buyers.get(buyer).born && y < 99) {
                y++;
            }
        }
        return y;
    }

    private static int bounded(int v) {
        return v < 0 ? 0 : v > 999 ? 999 : v;
    }

    private List<Thing> tied(int set) {
        List<Thing> list = new ArrayList<>();
        for (int i = 0; i < 32; i++) {
            if ((set & 1 << i) != 0) {
                if (noThing(i) || things.get(i).bought) {
                    return null;
                }
                list.add(things.get(i));
            }
        }
        int size = list.stream().mapToInt(t -> t.size).sum();
        return list.isEmpty() || list.size() > 1 && size > carry ? null : list;
    }

    private Names names(int b, List<Thing> list, int n) {
        return new Names(years(b, n), list.stream().mapToInt(t -> t.size).sum(),
                list.stream().mapToInt(t -> t.value).sum(), (week + n) % 52, buyers.get(b).fee,
                list.stream().allMatch(t -> t.own == b) ? 1 : 0);
    }

    /** Nothing: the shop doesn't serve that one so. */
    private Integer shopTakes(int b, List<Thing> list, int n) {
        Names names = names(b, list, n);
        Text text = texts.get(rule);
        if (text.serves.applyAsInt(names) == 0) {
            return null;
        }
        return Math.max(0, buyers.get(b).pence(names.age, names.week))
                + bounded(text.adds.applyAsInt(names));
    }

    private Integer costOf(int b, List<Thing> list, int n) {
        Integer takes = shopTakes(b, list, n);
        if (takes == null || list.stream().allMatch(t -> t.own == b)) {
            return takes;
        }
        return takes + Math.max(0, buyers.get(b).asks(buyers.get(b).fee));
    }

    /** A BUYER and the COST, or nothing. */
    private int[] bestOf(List<Thing> list, int n) {
        int[] found = null;
        for (int b = 0; b < buyers.size(); b++) {
            Integer c = costOf(b, list, n);
            if (c != null && (found == null || c < found[1])) {
                found = new int[] {b, c};
            }
        }
        return found;
    }

    int cost(int buyer, int set, int n) {
        if (noBuyer(buyer) || tied(set) == null || !in(n, 0, 103)) {
            return BAD;
        }
        Integer c = costOf(buyer, tied(set), n);
        return c == null ? -5 : c;
    }

    int best(int set, int n, int what) {
        if (tied(set) == null || !in(n, 0, 103) || !in(what, 0, 1)) {
            return BAD;
        }
        int[] found = bestOf(tied(set), n);
        return found == null ? NONE : found[what];
    }

    int when(int thing, int what) {
        if (noThing(thing) || !in(what, 0, 1)) {
            return BAD;
        }
        if (things.get(thing).bought) {
            return STATE;
        }
        int[] found = null;
        for (int n = 0; n <= 103; n++) {
            int[] then = bestOf(List.of(things.get(thing)), n);
            if (then != null && (found == null || then[1] < found[1])) {
                found = new int[] {n, then[1]};
            }
        }
        return found == null ? NONE : found[what];
    }

    int buy(int buyer, int set) {
        if (noBuyer(buyer) || tied(set) == null) {
            return BAD;
        }
        List<Thing> list = tied(set);
        Integer takes = shopTakes(buyer, list, 0);
        if (takes == null) {
            return STATE;
        }
        list.forEach(t -> t.bought = true);
        till += takes;
        return takes;
    }

    int pass() {
        week++;
        if (week == 52) {
            week = 0;
            year = year == 99 ? 99 : year + 1;
        }
        for (Buyer b : buyers) {
            if (b.born == week && b.years < 99) {
                b.years++;
            }
        }
        return week;
    }

    // ---- all of it

    /** COST, how many heaps, the heaps by their least things; or nothing. */
    private List<Integer> bestWay() {
        List<Integer> open = new ArrayList<>();
        for (int t = 0; t < things.size(); t++) {
            if (!things.get(t).bought) {
                open.add(t);
            }
        }
        List<List<Integer>> ways = new ArrayList<>();
        part(open, 0, new ArrayList<>(), ways, new HashMap<>());
        return ways.stream().min(Oracle::compareWays).orElse(null);
    }

    private static int compareWays(List<Integer> a, List<Integer> b) {
        for (int i = 0; i < Math.min(a.size(), b.size()); i++) {
            if (!a.get(i).equals(b.get(i))) {
                return a.get(i).compareTo(b.get(i));
            }
        }
        return 0;
    }

    private void part(List<Integer> open, int i, List<Integer> heaps, List<List<Integer>> ways,
            Map<Integer, Integer> prices) {
        if (i == open.size()) {
            int sum = 0;
            for (int h : heaps) {
                int price = prices.computeIfAbsent(h, k -> {
                    int[] found = tied(k) == null ? null : bestOf(tied(k), 0);
                    return found == null ? -1 : found[1];
                });
                if (price < 0) {
                    return;
                }
                sum += price;
            }
            List<Integer> way = new ArrayList<>(List.of(sum, heaps.size()));
            way.addAll(heaps);
            ways.add(way);
            return;
        }
        int bit = 1 << open.get(i);
        for (int h = 0; h < heaps.size(); h++) {
            heaps.set(h, heaps.get(h) | bit);
            part(open, i + 1, heaps, ways, prices);
            heaps.set(h, heaps.get(h) & ~bit);
        }
        heaps.add(bit);
        part(open, i + 1, heaps, ways, prices);
        heaps.remove(heaps.size() - 1);
    }

    int all(int what) {
        if (!in(what, 0, 1)) {
            return BAD;
        }
        List<Integer> way = bestWay();
        return way == null ? NONE : way.get(what);
    }

    int heap(int thing) {
        if (noThing(thing)) {
            return BAD;
        }
        if (things.get(thing).bought) {
            return STATE;
        }
        List<Integer> way = bestWay();
        if (way == null) {
            return NONE;
        }
        return way.stream().skip(2).filter(h -> (h >> thing & 1) == 1).findFirst().orElseThrow();
    }

    int eachOne() {
        Integer[][] costs = new Integer[things.size()][buyers.size()];
        for (int t = 0; t < things.size(); t++) {
            for (int b = 0; b < buyers.size(); b++) {
                costs[t][b] = costOf(b, List.of(things.get(t)), 0);
            }
        }
        return eachFrom(0, new boolean[7], costs);
    }

    private int eachFrom(int t, boolean[] busy, Integer[][] costs) {
        if (t == things.size()) {
            return 0;
        }
        if (things.get(t).bought) {
            return eachFrom(t + 1, busy, costs);
        }
        int least = NONE;
        for (int b = 0; b < buyers.size(); b++) {
            if (!busy[b] && costs[t][b] != null) {
                busy[b] = true;
                int more = eachFrom(t + 1, busy, costs);
                busy[b] = false;
                if (more != NONE && (least == NONE || more + costs[t][b] < least)) {
                    least = more + costs[t][b];
                }
            }
        }
        return least;
    }

    long gain(int thing, int what) {
        if (noThing(thing) || !in(what, 0, 1) || things.get(thing).bought) {
            return NO;
        }
        long[] found = null;
        List<Thing> list = List.of(things.get(thing));
        for (int b = 0; b < buyers.size(); b++) {
            Integer c = costOf(b, list, 0);
            if (c != null) {
                long g = bounded(texts.get(rule).gains.applyAsInt(names(b, list, 0))) - c;
                if (found == null || g > found[0]) {
                    found = new long[] {g, b};
                }
            }
        }
        return found == null ? NO : found[what];
    }

    int year() {
        int sum = 0;
        for (Thing t : things) {
            int least = Integer.MAX_VALUE;
            for (int n = 0; n <= 51 && !t.bought; n++) {
                int[] then = bestOf(List.of(t), n);
                least = then == null ? least : Math.min(least, then[1]);
            }
            sum += least == Integer.MAX_VALUE ? 0 : least;
        }
        return sum;
    }

    private int earns(int b) {
        int sum = 0;
        for (Thing t : things) {
            if (!t.bought && t.own != b) {
                int[] found = bestOf(List.of(t), 0);
                if (found != null && found[0] == b) {
                    sum += Math.max(0, buyers.get(b).asks(buyers.get(b).fee));
                }
            }
        }
        return sum;
    }

    int rest(int buyer) {
        if (noBuyer(buyer)) {
            return BAD;
        }
        int[] stood = buyers.stream().mapToInt(b -> b.fee).toArray();
        for (int round = 1; round <= 4; round++) {
            boolean did = false;
            for (int b = 0; b < buyers.size(); b++) {
                Buyer one = buyers.get(b);
                int had = one.fee;
                int hadEarned = earns(b);
                int[] byFee = new int[21];
                for (int f = 0; f <= 20; f++) {
                    one.fee = f;
                    byFee[f] = earns(b);
                }
                int most = Arrays.stream(byFee).max().getAsInt();
                one.fee = had;
                for (int f = 20; f >= 0 && most > hadEarned; f--) {
                    one.fee = byFee[f] == most ? f : one.fee;
                }
                did |= most > hadEarned;
            }
            if (!did) {
                break;
            }
        }
        int answer = buyers.get(buyer).fee;
        for (int b = 0; b < buyers.size(); b++) {
            buyers.get(b).fee = stood[b];
        }
        return answer;
    }

    private static int at(Object row, int i) {
        return ((Number) java.lang.reflect.Array.get(row, i)).intValue();
    }

    private static int size(Object row) {
        return java.lang.reflect.Array.getLength(row);
    }

    int lies(int sheet) {
        if (!in(sheet, 0, 3)) {
            return BAD;
        }
        if (sheets[sheet] == null) {
            return -11;
        }
        if (size(sheets[sheet]) != buyers.size()) {
            return BAD;
        }
        int bits = 0;
        for (int b = 0; b < buyers.size(); b++) {
            if (at(sheets[sheet], b) != buyers.get(b).years) {
                bits |= 1 << b;
            }
        }
        return bits;
    }

    int judge(int sheet, int what) {
        if (!in(sheet, 0, 3) || !in(what, 0, 1)) {
            return BAD;
        }
        Object row = sheets[sheet];
        if (row == null) {
            return -11;
        }
        if (size(row) % 2 == 1) {
            return BAD;
        }
        // The list is truly bought, and all of it laid back behind it.
        boolean[] stood = new boolean[things.size()];
        for (int t = 0; t < things.size(); t++) {
            stood[t] = things.get(t).bought;
        }
        int tillStood = till;
        int first = NONE;
        for (int r = 0; r < size(row) / 2 && first == NONE; r++) {
            int t = at(row, 2 * r + 1);
            first = noThing(t) || buy(at(row, 2 * r), 1 << t) < 0 ? r : NONE;
        }
        int paid = till - tillStood;
        till = tillStood;
        for (int t = 0; t < things.size(); t++) {
            things.get(t).bought = stood[t];
        }
        return what == 0 ? first : paid;
    }

    int drawn(int seed) {
        if (buyers.isEmpty()) {
            return NONE;
        }
        int z = seed;
        int sum = 0;
        for (Thing t : things) {
            if (!t.bought) {
                z = (int) (z * 1103515245L + 12345L);
                int b = (int) (((z & 0xFFFFFFFFL) >> 10) % buyers.size());
                Integer takes = shopTakes(b, List.of(t), 0);
                sum += takes == null ? 0 : takes;
            }
        }
        return sum;
    }

    long mean(int part) {
        if (!in(part, 0, 1) || buyers.isEmpty()) {
            return NO;
        }
        java.math.BigInteger sum = java.math.BigInteger.valueOf(
                buyers.stream().mapToInt(b -> b.years).sum());
        java.math.BigInteger many = java.math.BigInteger.valueOf(buyers.size());
        return (part == 0 ? sum : many).divide(sum.gcd(many)).longValue();
    }

    int image() {
        picture = new Picture();
        buyers.forEach(b -> picture.buyers.add(new int[] {b.years, b.fee}));
        things.forEach(t -> picture.things.add(new int[] {t.own, t.bought ? 1 : 0}));
        picture.week = week;
        picture.year = year;
        picture.till = till;
        picture.carry = carry;
        picture.rule = rule;
        return week;
    }

    int back() {
        if (picture == null) {
            return STATE;
        }
        for (int b = 0; b < picture.buyers.size(); b++) {
            buyers.get(b).years = picture.buyers.get(b)[0];
            buyers.get(b).fee = picture.buyers.get(b)[1];
        }
        for (int t = 0; t < picture.things.size(); t++) {
            things.get(t).own = picture.things.get(t)[0];
            things.get(t).bought = picture.things.get(t)[1] == 1;
        }
        week = picture.week;
        year = picture.year;
        till = picture.till;
        carry = picture.carry;
        rule = picture.rule;
        return week;
    }

    int count(int what) {
        int[] all = {buyers.size(), things.size(),
            (int) things.stream().filter(t -> !t.bought).count(), week, year, till, carry,
            texts.size(), tape.length(), rule};
        return in(what, 0, 9) ? all[what] : BAD;
    }

    // ---- the host

    int sheet(int sheet, int sort, int n) {
        if (!in(sheet, 0, 3) || !in(sort, -1, 2)) {
            return BAD;
        }
        if (sort != -1 && n > 40) {
            return BAD;
        }
        try {
            sheets[sheet] = switch (sort) {
                case 0 -> new byte[n];
                case 1 -> new short[n];
                case 2 -> new int[n];
                default -> null;
            };
            return 1;
        } catch (NegativeArraySizeException e) {
            return -14;
        }
    }

    int cell(int sheet, int i, int v) {
        if (!in(sheet, 0, 3)) {
            return BAD;
        }
        try {
            Object row = sheets[sheet];
            if (row instanceof byte[] bytes) {
                bytes[i] = (byte) v;
            } else if (row instanceof short[] shorts) {
                shorts[i] = (short) v;
            } else {
                ((int[]) row)[i] = v;
            }
            return 1;
        } catch (NullPointerException e) {
            return -11;
        } catch (ArrayIndexOutOfBoundsException e) {
            return -12;
        }
    }

    int copy(int sheet, int i, int other, int j, int n) {
        if (!in(sheet, 0, 3) || !in(other, 0, 3)) {
            return BAD;
        }
        try {
            System.arraycopy(sheets[sheet], i, sheets[other], j, n);
            return n;
        } catch (NullPointerException e) {
            return -11;
        } catch (ArrayStoreException e) {
            return -13;
        } catch (IndexOutOfBoundsException e) {
            return -12;
        }
    }

    int things(int sheet, int sort, int from, int n) {
        if (!in(sheet, 0, 3) || !in(sort, 0, 2) || !in(n, 0, 7)) {
            return BAD;
        }
        try {
            Object row = List.of(byte[].class, short[].class, int[].class).get(sort)
                    .cast(sheets[sheet]);
            row.getClass();
            int came = 0;
            for (int k = 0; k < n; k++) {
                if (thing(at(row, from + 2 * k), at(row, from + 2 * k + 1)) >= 0) {
                    came++;
                }
            }
            return came;
        } catch (ClassCastException e) {
            return -13;
        } catch (NullPointerException e) {
            return -11;
        } catch (ArrayIndexOutOfBoundsException e) {
            return -12;
        }
    }

    int taken(int buyer, int k) {
        if (!in(k, 0, 5)) {
            return BAD;
        }
        if (noBuyer(buyer)) {
            return -11;
        }
        return KINDS.get(k).isInstance(buyers.get(buyer)) ? buyers.get(buyer).number : -13;
    }
}
