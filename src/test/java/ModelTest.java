import java.util.Random;

/** All promises at once: long runs of calls, ordinary and wrong ones, against ModelYard. The seeds are fixed. */
public final class ModelTest {
    private static final int YARDS = 6000;
    /** What a yard answers to later calls is free. */
    private static final int MOST_CALLS = 512;
    private static final int CALLS_AT_ONCE = 3;
    private static final int[] EDGES = {Due.MIN, Due.MIN + 1, Due.MAX, Due.MAX - 1, -1, 12, 20, 60, 1 << 30};

    private final Random random;
    private final RidingYard yard = new RidingYard();
    private final ModelYard model = new ModelYard();
    /** How rare the calls are that take things away: else most runs would stay at the fault of none. */
    private final int tidiness;
    private final int seed;
    private int calls = 0;
    private boolean parted = false;

    private ModelTest(int seed) {
        this.seed = seed;
        random = new Random(seed);
        tidiness = 1 + seed % 12;
    }

    public static void main(String[] args) {
        int[][] met = new int[18][7];
        for (int seed = 0; seed < YARDS; seed++) {
            ModelTest test = new ModelTest(seed);
            while (test.calls + CALLS_AT_ONCE <= MOST_CALLS && !test.parted) {
                test.call(met);
            }
        }
        everyWayWasGone(met);
        Due.end();
    }

    /** The runs prove little of an act or a fault that they never met. */
    private static void everyWayWasGone(int[][] met) {
        String[] ways = {"01", "01", "01", "01", "01", "013", "013", "02", "0145", "015", "01", "01", "02", "015",
            "01", "02", "015", "16"};
        for (int act = 0; act < 18; act++) {
            for (int fault = 0; fault <= 6; fault++) {
                boolean goes = ways[act].indexOf('0' + fault) >= 0;
                Due.due("act " + act + " met fault " + fault, met[act][fault] > 0 ? 1 : 0, goes ? 1 : 0);
            }
        }
    }

    private int number(int n) {
        int kind = random.nextInt(40);
        if (kind == 0) {
            return EDGES[random.nextInt(EDGES.length)];
        }
        if (kind == 1) {
            return random.nextInt();
        }
        return random.nextInt(n + 2) - 1;
    }

    private int value() {
        return random.nextInt(8) == 0 ? random.nextInt() : random.nextInt(21) - 10;
    }

    private int[] actNumbers() {
        int act = number(18);
        int b = act == 0 || act == 2 || act == 4 || act == 11 ? value() : number(random.nextBoolean() ? 3 : 7);
        int c = act == 13 ? value() : number(random.nextBoolean() ? 4 : 10);
        return new int[] {act, number(random.nextBoolean() ? 3 : 10), b, c};
    }

    private void call(int[][] met) {
        int what = random.nextInt(40);
        if (what < 14) {
            actCall(met);
        } else if (what < 24) {
            makeCall();
        } else if (what < 31) {
            dayCall();
        } else {
            askCall();
        }
        due("came()", yard.came(), model.came);
        int counted = random.nextInt(12);
        due("count(" + counted + ")", yard.count(counted), model.count(counted));
    }

    private void actCall(int[][] met) {
        int[] n = actNumbers();
        int due = model.act(n[0], n[1], n[2], n[3]);
        if (due != Due.BAD) {
            met[n[0]][due == 1 ? 0 : -10 - due]++;
        }
        due(Calls.text("act", n), yard.act(n[0], n[1], n[2], n[3]), due);
    }

    private void makeCall() {
        int[] n = {number(10), number(6), number(3), value()};
        switch (random.nextInt(tidiness + 4)) {
            case 0:
                int sort = number(6);
                due(Calls.text("empty", sort, n[0]), yard.empty(sort, n[0]), model.empty(sort, n[0]));
                break;
            case 1:
                int table = number(4);
                due(Calls.text("tear", table, n[1]), yard.tear(table, n[1]), model.tear(table, n[1]));
                break;
            case 2: due(Calls.text("wagon", n[1], n[3]), yard.wagon(n[1], n[3]), model.wagon(n[1], n[3])); break;
            case 3: due(Calls.text("hang", n[1], n[3]), yard.hang(n[1], n[3]), model.hang(n[1], n[3])); break;
            case 4: due(Calls.text("lead", n[0], n[1]), yard.lead(n[0], n[1]), model.lead(n[0], n[1])); break;
            default:
                due(Calls.text("horse", n[0], n[2], n[3]), yard.horse(n[0], n[2], n[3]),
                    model.horse(n[0], n[2], n[3]));
                break;
        }
    }

    private void dayCall() {
        int what = random.nextInt(12);
        if (what == 0) {
            due("clear()", yard.clear(), model.clear());
        } else if (what < 4) {
            due("day()", yard.day(), model.day());
        } else {
            int[] n = actNumbers();
            due(Calls.text("task", n), yard.task(n[0], n[1], n[2], n[3]), model.task(n[0], n[1], n[2], n[3]));
        }
    }

    private void askCall() {
        int stall = number(10);
        int k = number(6);
        int i = number(42);
        int two = number(2);
        switch (random.nextInt(5)) {
            case 0: due(Calls.text("book", i, two), yard.book(i, two), model.book(i, two)); break;
            case 1: due(Calls.text("shed", k), yard.shed(k), model.shed(k)); break;
            case 2:
                int other = number(10);
                due(Calls.text("same", stall, other), yard.same(stall, other), model.same(stall, other));
                break;
            case 3:
                int what = number(12);
                due(Calls.text("count", what), yard.count(what), model.count(what));
                break;
            default:
                due(Calls.text("horseTells", stall, k), yard.horseTells(stall, k), model.horseTells(stall, k));
                break;
        }
    }

    /** Once the two have parted, all that follows differs, too, and tells nothing more. */
    private void due(String call, int got, int want) {
        calls++;
        parted |= got != want;
        Due.due("seed " + seed + ", call " + calls + ": " + call, got, want);
    }
}
