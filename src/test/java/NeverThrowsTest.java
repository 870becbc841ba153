import java.util.Random;

/**
 * Rule 7 of LANGUAGE.md: no call may ever throw, for any arguments in any state, so also behind the 512th call, where
 * the answers are free and are not looked at here. What is thrown ends the test with an exit code other than 0.
 */
public final class NeverThrowsTest {
    private static final String[] NAMES = {"horse", "wagon", "lead", "empty", "tear", "hang", "act", "came", "task",
        "clear", "day", "book", "horseTells", "shed", "same", "count"};
    private static final int[] EDGES = {Due.MIN, Due.MIN + 1, -1000000003, -61, -1, 0, 1, 2, 3, 4, 5, 6, 8, 9, 10, 11,
        12, 17, 18, 19, 20, 39, 40, 60, 1 << 30, Due.MAX - 1, Due.MAX};

    public static void main(String[] args) {
        moreFaultsThanAnIntCounts();
        anyArguments();
        System.out.println("nothing was thrown");
    }

    private static void anyArguments() {
        Random random = new Random(7);
        for (int yards = 0; yards < 20; yards++) {
            RidingYard x = new RidingYard();
            for (int calls = 0; calls < 20000; calls++) {
                int[] n = new int[4];
                for (int i = 0; i < 4; i++) {
                    n[i] = random.nextInt(8) == 0 ? random.nextInt() : EDGES[random.nextInt(EDGES.length)];
                }
                Calls.answer(x, NAMES[random.nextInt(NAMES.length)], n);
            }
        }
    }

    /** What is counted wraps at some time; it must not be an index then. */
    private static void moreFaultsThanAnIntCounts() {
        RidingYard x = new RidingYard();
        for (int i = 0; i < 20; i++) {
            x.task(1, 0, 0, 0);
        }
        int days = Due.MAX / 20 + 2;
        for (int i = 0; i < days; i++) {
            x.day();
        }
        for (int i = -1; i <= 41; i++) {
            x.book(i, 0);
        }
    }
}
