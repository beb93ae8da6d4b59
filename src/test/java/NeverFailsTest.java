import java.util.Random;

/** No call throws, whatever its arguments, also when an object is used far longer than the document allows. */
public final class NeverFailsTest {
    private static final int[] ODD_NUMBERS = {
        Integer.MIN_VALUE, Integer.MIN_VALUE + 1, -65, -64, -33, -32, -1, 5, 8, 20, 21, 31, 32, 47, 48, 49, 63, 64, 65,
        Integer.MAX_VALUE - 1, Integer.MAX_VALUE
    };
    private static final String[] CALLS = {
        "send", "visit", "visit", "visit", "tick", "crash", "restart", "place", "deafen", "drop", "ring", "members",
        "token", "last", "requests", "reach", "line", "waiting", "delivered", "log", "stamp"
    };

    public static void main(String[] args) {
        for (long seed = 0; seed < 40; seed++) {
            Random random = new Random(seed);
            RotatingTokenGroup group = new RotatingTokenGroup();
            for (int k = 0; k < 5000; k++) {
                String call = CALLS[random.nextInt(CALLS.length)] + " " + number(random) + " " + number(random);
                Script.answer(group, call);
            }
        }
        System.out.println("no call failed");
    }

    private static int number(Random random) {
        return random.nextInt(8) == 0 ? ODD_NUMBERS[random.nextInt(ODD_NUMBERS.length)] : random.nextInt(5);
    }
}
