import java.util.Random;

/** No call throws, whatever its numbers are; and a run makes few objects. */
public final class AnyNumbersTest {
    private static final int[] EDGES = {Integer.MIN_VALUE, Integer.MIN_VALUE + 1, -129, -128, -33,
        -32, -15, -2, -1, 0, 1, 2, 3, 4, 5, 6, 7, 8, 9, 10, 31, 32, 33, 39, 40, 41, 51, 52, 63, 64,
        99, 100, 103, 104, 127, 128, 255, 256, 999, 1000, 5199, 5200, 65535, 65536,
        Integer.MAX_VALUE - 1, Integer.MAX_VALUE};
    private static final String[] NAMES = {"buyer", "thing", "set", "told", "feed", "text", "force",
        "years", "cost", "best", "when", "buy", "pass", "all", "heap", "eachOne", "gain", "year",
        "rest", "lies", "judge", "drawn", "mean", "image", "back", "count", "sheet", "cell", "copy",
        "things", "taken"};

    private AnyNumbersTest() {
    }

    public static void main(String[] args) {
        Random random = new Random(7);
        for (int run = 0; run < 400; run++) {
            Both both = new Both();
            int things = random.nextInt(8);
            for (int i = 0; i < things; i++) {
                both.ask("buyer", random.nextInt(6), random.nextInt(5200), random.nextInt(1000));
                both.ask("thing", random.nextInt(10), random.nextInt(1000));
            }
            while (both.calls < 512 && !both.differ) {
                int[] a = new int[5];
                for (int i = 0; i < 5; i++) {
                    a[i] = EDGES[random.nextInt(EDGES.length)];
                }
                both.ask(NAMES[random.nextInt(NAMES.length)], a);
            }
            if (both.differ) {
                break;
            }
        }
        runsMakeLittle();
        Check.end();
    }

    private static void runsMakeLittle() {
        com.sun.management.ThreadMXBean bean = (com.sun.management.ThreadMXBean)
                java.lang.management.ManagementFactory.getThreadMXBean();
        long id = Thread.currentThread().getId();
        bean.getThreadAllocatedBytes(id);
        long before = bean.getThreadAllocatedBytes(id);
        CostsAge x = new CostsAge();
        long made = bean.getThreadAllocatedBytes(id) - before;
        Check.holds("a new object is small: " + made, made < 40000);
        before = bean.getThreadAllocatedBytes(id);
        int sum = dearRun(x);
        long more = bean.getThreadAllocatedBytes(id) - before;
        Check.holds("calls make next to nothing: " + more + ", " + sum, more < 20000);
    }

    private static int dearRun(CostsAge x) {
        int sum = 0;
        for (int i = 0; i < 7; i++) {
            sum += x.buyer(i % 6, 300 * i + 9 * i, 70 * i) + x.thing(1, 100 * i);
        }
        x.set(4, 0, 63);
        for (int i = 0; i < 60; i++) {
            sum += x.all(0) + x.heap(i % 7) + x.eachOne() + x.year() + x.rest(i % 7)
                    + x.when(i % 7, 0) + x.sheet(i % 4, i % 3, 40) + x.text();
        }
        return sum;
    }
}
