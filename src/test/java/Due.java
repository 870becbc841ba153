import java.util.LinkedHashSet;
import java.util.Set;

/** What the tests have in common: they compare, print what is wrong, and end with exit code 1 if something was. */
final class Due {
    static final int BAD = -1000000001, OUTSIDE = -1000000002, FULL = -1000000003;
    static final int NONE = -11, SIZE = -12, CAST = -13, STORE = -14, PLACE = -15, RAISED = -16;
    static final int MIN = Integer.MIN_VALUE, MAX = Integer.MAX_VALUE;

    private static final Set<String> SENTENCES = new LinkedHashSet<>();
    private static final Set<String> BROKEN = new LinkedHashSet<>();
    private static String sentence = "";
    private static int compared = 0;
    private static int wrong = 0;

    private Due() {
    }

    /** What follows is the test of this sentence of the document; a wrong answer is told as a break of it. */
    static void sentence(String quoted) {
        sentence = quoted;
        if (!SENTENCES.add(quoted)) {
            throw new IllegalStateException("two tests for one sentence: " + quoted);
        }
    }

    static void due(String call, long got, long want) {
        compared++;
        if (got != want) {
            wrong++;
            BROKEN.add(sentence);
            String told = sentence.isEmpty() ? "" : "[" + sentence + "] ";
            System.out.println(told + call + " answered " + got + ", due is " + want);
        }
    }

    /** A call by its name, with the answer that it must have. */
    static void answers(RidingYard yard, int want, String name, int... n) {
        due(Calls.text(name, n), Calls.answer(yard, name, n), want);
    }

    /** An act that must meet no fault, and what it must come to. */
    static void comes(RidingYard yard, int want, int act, int a, int b, int c) {
        String call = Calls.text("act", act, a, b, c);
        due(call, yard.act(act, a, b, c), 1);
        due("came() after " + call, yard.came(), want);
    }

    /** An act that must meet a fault, answered as want, and leave came() as it was. */
    static void fails(RidingYard yard, int want, int act, int a, int b, int c) {
        String call = Calls.text("act", act, a, b, c);
        int before = yard.came();
        int faultCount = 5 - 10 - want;
        int met = yard.count(faultCount);
        due(call, yard.act(act, a, b, c), want);
        due("count(" + faultCount + ") after " + call, yard.count(faultCount), met + 1);
        if (want != RAISED) {
            due("came() after " + call, yard.came(), before);
        }
    }

    /** All that a horse tells, from its kind to how tired it is. */
    static void tells(RidingYard yard, int stall, int... want) {
        for (int what = 0; what < want.length; what++) {
            due("horseTells(" + stall + ", " + what + ")", yard.horseTells(stall, what), want[what]);
        }
    }

    static void end() {
        System.out.println(compared + " answers compared, " + wrong + " not as due");
        if (!SENTENCES.isEmpty()) {
            System.out.println(SENTENCES.size() + " sentences, " + BROKEN.size() + " broken");
        }
        if (wrong != 0) {
            System.exit(1);
        }
    }
}
