import java.util.ArrayList;
import java.util.Arrays;
import java.util.List;

/**
 * Two yards made by the same calls, one of which then gets a call more: whether that call changed anything. What can
 * be asked of a yard is more than the 512 calls that it is good for, and some asking changes it; so it is asked in
 * parts, each of a new pair.
 */
final class Twins {
    /** The part that tells came() and how often each fault was met; the others tell what a fault must leave alone. */
    private static final int MET = 8;
    private static final int PARTS = 9;

    private Twins() {
    }

    /** A yard in which every sort of place holds something here and none there, and something is put down. */
    static RidingYard mixed() {
        RidingYard x = new RidingYard();
        for (int k = 0; k < 9; k++) {
            x.horse(k, k % 3, 100 + k);
            x.act(2, k, 200 + k, 0);
        }
        x.act(0, 0, 5, 0);
        x.act(3, 1, 0, 0);
        x.wagon(0, 3);
        x.lead(0, 1);
        x.lead(2, 2);
        x.wagon(4, 5);
        x.act(4, 4, 7, 0);
        x.act(7, 0, 0, 3);
        x.act(8, 0, 0, 3);
        x.act(8, 0, 1, 4);
        x.act(7, 1, 1, 8);
        x.act(8, 1, 7, 5);
        x.act(7, 2, 2, 2);
        x.act(8, 2, 0, 2);
        x.act(8, 2, 1, 2);
        x.act(7, 4, 0, 0);
        x.act(12, 0, 3, 0);
        x.act(13, 0, 2, 31);
        x.act(12, 2, 0, 0);
        x.act(12, 3, 12, 0);
        x.act(15, 0, 2, 3);
        x.act(16, 0, 0, 2);
        x.tear(0, 1);
        x.act(15, 2, 0, 3);
        x.act(15, 3, 6, 6);
        x.hang(0, 77);
        x.hang(5, -5);
        x.task(13, 0, 0, 4);
        x.task(12, 1, -1, 0);
        x.task(17, 1, 0, 0);
        x.task(14, 0, 0, 0);
        x.day();
        return x;
    }

    /** The same with 60 of each that is made, and 20 tasks. */
    static RidingYard full() {
        RidingYard x = mixed();
        for (int i = 9; i < 60; i++) {
            x.horse(8, i % 3, 300 + i);
        }
        for (int i = 2; i < 60; i++) {
            x.wagon(4, i);
            x.hang(5, i);
        }
        for (int i = 4; i < 20; i++) {
            x.task(0, i % 9, i, 0);
        }
        return x;
    }

    /** The call is refused, so that the yard must be afterwards as it would be without it. */
    static void refuses(boolean full, int want, String name, int... n) {
        compare(full, PARTS, want, name, n);
    }

    /** The act meets a fault that nothing was done ahead of: all but the fault's count and came() must be as before. */
    static void leaves(int fault, int act, int a, int b, int c) {
        compare(false, MET, fault, "act", act, a, b, c);
    }

    private static void compare(boolean full, int parts, int want, String name, int... n) {
        for (int part = 0; part < parts; part++) {
            RidingYard plain = full ? full() : mixed();
            RidingYard other = full ? full() : mixed();
            Due.answers(other, want, name, n);
            int same = Arrays.equals(asked(plain, part), asked(other, part)) ? 1 : 0;
            Due.due("part " + part + " of the yard is the same after " + Calls.text(name, n) + ", which", same, 1);
        }
    }

    private static int[] asked(RidingYard x, int part) {
        List<Integer> told = new ArrayList<>();
        switch (part) {
            case 0: stallsShedsAndBook(x, told); break;
            case 1: workersAndHooks(x, told); break;
            case 2: placesOfTeams(x, told); break;
            case 3: kindsOfTeams(x, told); break;
            case 4: ledgers(x, told); break;
            case 5: tables(x, told, 0); break;
            case 6: tables(x, told, 2); break;
            case 7: theDay(x, told); break;
            default: cameAndFaultsMet(x, told); break;
        }
        return told.stream().mapToInt(Integer::intValue).toArray();
    }

    private static void stallsShedsAndBook(RidingYard x, List<Integer> told) {
        for (int what = 0; what <= 4; what++) {
            told.add(x.count(what));
        }
        for (int stall = 0; stall < 10; stall++) {
            for (int what = 0; what < 6; what++) {
                told.add(x.horseTells(stall, what));
            }
            for (int other = 0; other < stall; other++) {
                told.add(x.same(stall, other));
            }
        }
        for (int k = 0; k < 6; k++) {
            told.add(x.shed(k));
        }
        for (int i = 0; i < 40; i++) {
            told.add(x.book(i, 0));
            told.add(x.book(i, 1));
        }
    }

    private static void workersAndHooks(RidingYard x, List<Integer> told) {
        for (int k = 0; k < 6; k++) {
            tell(x, told, 4, k, 1, 0);
            tell(x, told, 4, k, 2, 0);
            tell(x, told, 5, k, 0, 0);
        }
        for (int k = 0; k < 6; k++) {
            tell(x, told, 17, k, 0, 0);
        }
    }

    private static void placesOfTeams(RidingYard x, List<Integer> told) {
        for (int team = 0; team < 6; team++) {
            tell(x, told, 10, team, 0, 0);
            for (int place = 0; place < 9; place++) {
                told.add(x.act(9, team, place, 9));
                told.add(x.horseTells(9, 1));
            }
        }
    }

    private static void kindsOfTeams(RidingYard x, List<Integer> told) {
        for (int team = 0; team < 6; team++) {
            for (int stall = 0; stall < 3; stall++) {
                told.add(x.act(8, team, 0, stall));
            }
        }
    }

    private static void ledgers(RidingYard x, List<Integer> told) {
        for (int k = 0; k < 4; k++) {
            tell(x, told, 14, k, 0, 0);
            for (int i = 0; i < 13; i++) {
                tell(x, told, 13, k, i, 0);
            }
        }
    }

    private static void tables(RidingYard x, List<Integer> told, int first) {
        for (int k = first; k < first + 2; k++) {
            for (int row = 0; row < 7; row++) {
                for (int i = 0; i < 7; i++) {
                    tell(x, told, 16, k, row, i);
                }
            }
        }
    }

    private static void theDay(RidingYard x, List<Integer> told) {
        told.add(x.day());
        told.add(x.came());
        told.add(x.count(4));
        for (int i = 0; i < 40; i++) {
            told.add(x.book(i, 0));
            told.add(x.book(i, 1));
        }
        for (int stall = 0; stall < 10; stall++) {
            told.add(x.horseTells(stall, 2));
        }
        told.add(x.clear());
        told.add(x.day());
    }

    private static void cameAndFaultsMet(RidingYard x, List<Integer> told) {
        told.add(x.came());
        for (int what = 6; what <= 11; what++) {
            told.add(x.count(what));
        }
    }

    private static void tell(RidingYard x, List<Integer> told, int act, int a, int b, int c) {
        int answer = x.act(act, a, b, c);
        told.add(answer);
        // came() of an act that failed would tell an earlier one, which is no part of what is asked here.
        told.add(answer == 1 || answer == Due.RAISED ? x.came() : 0);
    }
}
