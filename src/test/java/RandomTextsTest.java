import java.util.Random;

/** Texts, good and bad ones, against the oracle: what text() answers, and what they are worth. */
public final class RandomTextsTest {
    private static final int TEXTS = 12000;

    private RandomTextsTest() {
    }

    public static void main(String[] args) {
        Random random = new Random(42);
        Texts texts = new Texts(random);
        int good = 0;
        for (int i = 0; i < TEXTS; i++) {
            Both both = new Both();
            int depth = random.nextInt(7);
            String text = random.nextInt(3) == 0 ? texts.bad(depth) : texts.good(depth);
            both.feed(text.substring(0, Math.min(text.length(), 165)));
            if (both.ask("text") == 1) {
                good++;
                lookAtWorth(both, random);
            }
            if (both.differ) {
                System.out.println("text " + text);
                break;
            }
        }
        Check.holds("many of the texts are good", good > TEXTS / 4);
        Check.end();
    }

    private static void lookAtWorth(Both both, Random random) {
        both.ask("force", 1);
        for (int i = 0; i < 4; i++) {
            both.ask("buyer", random.nextInt(6), random.nextInt(5200), random.nextInt(1000));
            both.ask("thing", random.nextInt(10), random.nextInt(1000));
        }
        both.ask("set", 4, 0, 63);
        both.ask("set", 3, 0, 1);
        both.ask("set", 3, 1, 1);
        for (int b = 0; b < 4; b++) {
            both.ask("cost", b, 1 << b, random.nextInt(104));
            both.ask("cost", b, 3, 0);
            both.ask("gain", b, 0);
            both.ask("gain", b, 1);
        }
    }
}
