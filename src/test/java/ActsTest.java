/** Promises 8 and 9: the acts 0 to 17, the faults that they meet, and what they come to. */
public final class ActsTest {
    public static void main(String[] args) {
        noSuchAct();
        horseActs();
        horseActsWrap();
        groomAndWorkByKind();
        shedActs();
        rugOfHunter();
        teamForms();
        teamTakesItsKind();
        teamPlacesAndStalls();
        teamWorks();
        ledgers();
        tables();
        tableSizes();
        alarms();
        namesModulo();
        cameStays();
        Due.end();
    }

    private static void noSuchAct() {
        RidingYard x = new RidingYard();
        for (int act : new int[] {-1, 18, 19, Due.MIN, Due.MAX}) {
            Due.due("act(" + act + ")", x.act(act, 0, 0, 0), Due.BAD);
        }
        for (int what = 6; what <= 11; what++) {
            Due.due("count(" + what + ")", x.count(what), 0);
        }
    }

    private static void horseActs() {
        RidingYard x = new RidingYard();
        for (int act = 0; act <= 3; act++) {
            Due.fails(x, Due.NONE, act, 0, 1, 0);
        }
        x.horse(0, 0, 42);
        Due.comes(x, 5, 0, 0, 5, 0);
        Due.comes(x, 3, 0, 0, -2, 0);
        Due.comes(x, 42, 1, 0, 9, 9);
        Due.comes(x, 0, 2, 0, 17, 0);
        Due.comes(x, 1, 3, 0, 0, 0);
        Due.tells(x, 0, 0, 42, 3, 17, 1, 0);
    }

    private static void horseActsWrap() {
        RidingYard x = new RidingYard();
        x.horse(0, 1, 1);
        x.lead(0, 0);
        Due.comes(x, Due.MAX, 0, 0, Due.MAX, 0);
        Due.comes(x, Due.MIN, 0, 0, 1, 0);
        Due.comes(x, Due.MIN, 4, 0, 1 << 30, 0);
        Due.comes(x, 0, 4, 0, 1 << 30, 0);
        x.wagon(1, 1 << 16);
        Due.comes(x, 1 << 16, 4, 1, 1, 0);
        Due.comes(x, 1 << 16, 4, 1, 1 << 16, 0);
        x.act(12, 0, 2, 0);
        Due.comes(x, Due.MAX, 13, 0, 0, Due.MAX);
        Due.comes(x, Due.MAX, 13, 0, 1, Due.MAX);
        Due.comes(x, -2, 14, 0, 0, 0);
        Due.comes(x, Due.MIN, 13, 0, 0, 1);
    }

    private static void groomAndWorkByKind() {
        RidingYard x = new RidingYard();
        for (int kind = 0; kind < 3; kind++) {
            x.horse(kind, kind, 10);
            x.act(2, kind, 6, 0);
            x.lead(kind, kind);
        }
        int[] groomed = {1, 2, 2};
        int[] tired = {5, 10, 11};
        int[] rug = {6, 6, 0};
        for (int kind = 0; kind < 3; kind++) {
            Due.comes(x, groomed[kind], 3, kind, 0, 0);
            Due.comes(x, 2 * groomed[kind], 3, kind, 0, 0);
            Due.comes(x, tired[kind], 4, kind, 5, 0);
            Due.comes(x, 2 * tired[kind], 4, kind, 5, 0);
            Due.tells(x, kind, kind, 10, 0, rug[kind], 2 * groomed[kind], 2 * tired[kind]);
        }
        Due.comes(x, 23, 4, 2, 0, 0);
        Due.comes(x, 18, 4, 2, -3, 0);
    }

    private static void shedActs() {
        RidingYard x = new RidingYard();
        Due.fails(x, Due.NONE, 4, 0, 1, 0);
        Due.fails(x, Due.NONE, 5, 0, 0, 0);
        x.wagon(0, -4);
        Due.comes(x, -12, 4, 0, 3, 0);
        Due.comes(x, -20, 4, 0, 2, 0);
        Due.fails(x, Due.CAST, 5, 0, 0, 0);
        for (int kind = 0; kind < 3; kind++) {
            x.horse(1, kind, 70 + kind);
            x.lead(1, 1);
            Due.comes(x, 70 + kind, 5, 1, 0, 0);
        }
    }

    private static void rugOfHunter() {
        RidingYard x = new RidingYard();
        Due.fails(x, Due.NONE, 6, 0, 0, 0);
        x.horse(0, 0, 1);
        x.horse(1, 1, 1);
        x.horse(2, 2, 1);
        Due.fails(x, Due.CAST, 6, 0, 0, 0);
        Due.fails(x, Due.CAST, 6, 1, 0, 0);
        x.act(2, 2, 31, 0);
        Due.comes(x, 31, 6, 2, 0, 0);
    }

    private static void teamForms() {
        RidingYard x = new RidingYard();
        Due.fails(x, Due.SIZE, 7, 0, 0, -1);
        Due.fails(x, Due.SIZE, 7, 0, 0, Due.MIN);
        Due.fails(x, Due.NONE, 10, 0, 0, 0);
        for (int size = 0; size <= 8; size++) {
            Due.comes(x, size, 7, 0, 0, size);
            Due.comes(x, size, 10, 0, 0, 0);
        }
        Due.comes(x, 8, 7, 0, 0, 9);
        Due.comes(x, 8, 7, 0, 0, Due.MAX);
        Due.comes(x, 8, 10, 0, 0, 0);
        x.horse(0, 2, 1);
        x.act(8, 0, 7, 0);
        Due.fails(x, Due.SIZE, 7, 0, 2, -1);
        Due.comes(x, 8, 10, 0, 0, 0);
        Due.comes(x, 1, 9, 0, 7, 1);
        Due.comes(x, 8, 7, 0, 0, 8);
        Due.comes(x, 0, 9, 0, 7, 1);
        Due.fails(x, Due.NONE, 10, 1, 0, 0);
    }

    private static void teamTakesItsKind() {
        RidingYard x = new RidingYard();
        for (int kind = 0; kind < 3; kind++) {
            x.horse(kind, kind, 1);
        }
        // Each row: what forms the team, and from which kind on it takes horses.
        int[][] forms = {{0, 0}, {1, 1}, {2, 2}, {3, 0}, {4, 1}, {5, 2}, {-1, 2}, {-2, 1}, {-3, 0},
            {Due.MAX, 1}, {Due.MIN, 1}};
        for (int[] form : forms) {
            Due.comes(x, 1, 7, 5, form[0], 1);
            for (int kind = 0; kind < 3; kind++) {
                if (kind >= form[1]) {
                    Due.comes(x, 1, 8, 5, 0, kind);
                } else {
                    Due.fails(x, Due.STORE, 8, 5, 0, kind);
                }
            }
            Due.comes(x, 1, 8, 5, 0, 9);
            Due.comes(x, 0, 9, 5, 0, 8);
        }
    }

    private static void teamPlacesAndStalls() {
        RidingYard x = new RidingYard();
        Due.fails(x, Due.NONE, 8, 0, 0, 0);
        Due.fails(x, Due.NONE, 8, 0, -1, 0);
        Due.fails(x, Due.NONE, 9, 0, 0, 0);
        x.horse(0, 0, 1);
        x.horse(1, 2, 1);
        x.act(7, 0, 2, 3);
        for (int place : new int[] {-1, 3, 7, 8, Due.MIN, Due.MAX}) {
            Due.fails(x, Due.PLACE, 8, 0, place, 0);
            Due.fails(x, Due.PLACE, 8, 0, place, 1);
            Due.fails(x, Due.PLACE, 9, 0, place, 1);
        }
        Due.comes(x, 1, 8, 0, 2, 1);
        Due.fails(x, Due.STORE, 8, 0, 2, 0);
        Due.comes(x, 1, 9, 0, 2, 4);
        Due.due("same(1, 4)", x.same(1, 4), 1);
        Due.comes(x, 0, 9, 0, 0, 4);
        Due.due("horseTells(4, 0)", x.horseTells(4, 0), Due.BAD);
        Due.comes(x, 1, 9, 0, 2, 0);
        Due.due("same(1, 0)", x.same(1, 0), 1);
    }

    private static void teamWorks() {
        RidingYard x = new RidingYard();
        Due.fails(x, Due.NONE, 11, 0, 1, 0);
        Due.comes(x, 0, 7, 0, 0, 0);
        x.horse(0, 0, 1);
        Due.comes(x, 1, 1, 0, 0, 0);
        Due.comes(x, 0, 11, 0, 5, 0);
        Due.comes(x, 4, 7, 0, 0, 4);
        Due.fails(x, Due.NONE, 11, 0, 5, 0);
        x.horse(1, 1, 1);
        x.horse(2, 2, 1);
        x.act(8, 0, 0, 2);
        x.act(8, 0, 1, 1);
        x.act(8, 0, 3, 0);
        Due.fails(x, Due.NONE, 11, 0, 5, 0);
        Due.due("tired ahead of the fault", x.horseTells(2, 5), 11);
        Due.due("tired ahead of the fault", x.horseTells(1, 5), 10);
        Due.due("not tired behind the fault", x.horseTells(0, 5), 0);
        x.act(8, 0, 2, 2);
        Due.comes(x, 5, 11, 0, 5, 0);
        Due.due("tired twice", x.horseTells(2, 5), 33);
        Due.due("tired", x.horseTells(1, 5), 20);
        x.act(8, 0, 3, 2);
        Due.comes(x, 36, 11, 0, 0, 0);
    }

    private static void ledgers() {
        RidingYard x = new RidingYard();
        Due.fails(x, Due.NONE, 13, 0, 0, 1);
        Due.fails(x, Due.NONE, 13, 0, -1, 1);
        Due.fails(x, Due.NONE, 14, 0, 0, 0);
        Due.fails(x, Due.SIZE, 12, 0, -1, 0);
        Due.fails(x, Due.SIZE, 12, 0, Due.MIN, 0);
        Due.fails(x, Due.NONE, 14, 0, 0, 0);
        for (int size = 0; size <= 14; size++) {
            int ints = Math.min(size, 12);
            Due.comes(x, ints, 12, 0, size, 0);
            Due.comes(x, 0, 14, 0, 0, 0);
            for (int i = 0; i < ints; i++) {
                Due.comes(x, i + 1, 13, 0, i, i + 1);
            }
            Due.fails(x, Due.PLACE, 13, 0, ints, 1);
            Due.fails(x, Due.PLACE, 13, 0, -1, 1);
            Due.comes(x, ints * (ints + 1) / 2, 14, 0, 0, 0);
        }
        Due.fails(x, Due.PLACE, 13, 0, Due.MIN, 1);
        Due.fails(x, Due.PLACE, 13, 0, Due.MAX, 1);
        Due.comes(x, -7, 13, 0, 11, -19);
        Due.fails(x, Due.SIZE, 12, 0, -1, 0);
        Due.comes(x, 59, 14, 0, 0, 0);
        Due.comes(x, 12, 12, 0, Due.MAX, 0);
        Due.comes(x, 0, 14, 0, 0, 0);
    }

    private static void tables() {
        RidingYard x = new RidingYard();
        Due.fails(x, Due.NONE, 16, 0, 0, 0);
        Due.fails(x, Due.NONE, 16, 0, -1, 0);
        int[][] noSizes = {{-1, 2}, {2, -1}, {0, -1}, {-1, 0}, {-1, -1}, {Due.MIN, 9}, {9, Due.MIN}};
        for (int[] size : noSizes) {
            Due.fails(x, Due.SIZE, 15, 0, size[0], size[1]);
            Due.fails(x, Due.NONE, 16, 0, 0, 0);
        }
        x.act(15, 0, 2, 2);
        x.act(16, 0, 1, 1);
        Due.fails(x, Due.SIZE, 15, 0, 2, -1);
        Due.comes(x, 2, 16, 0, 1, 1);
        x.tear(0, 1);
        Due.fails(x, Due.NONE, 16, 0, 1, 1);
        Due.fails(x, Due.NONE, 16, 0, 1, 2);
        Due.fails(x, Due.NONE, 16, 0, 1, -1);
        Due.fails(x, Due.PLACE, 16, 0, 2, 0);
    }

    private static void tableSizes() {
        int[][] sizes = {{6, 6}, {2, 3}, {3, 2}, {7, 1}, {1, 7}, {Due.MAX, Due.MAX}, {0, 3}, {3, 0}, {0, 0}};
        for (int[] size : sizes) {
            RidingYard x = new RidingYard();
            Due.comes(x, 1, 15, 0, size[0], size[1]);
            int rows = Math.min(size[0], 6);
            int ints = Math.min(size[1], 6);
            for (int row = 0; row < rows; row++) {
                for (int i = 0; i < ints; i++) {
                    Due.comes(x, 1, 16, 0, row, i);
                    Due.comes(x, 2, 16, 0, row, i);
                }
                Due.fails(x, Due.PLACE, 16, 0, row, ints);
                Due.fails(x, Due.PLACE, 16, 0, row, -1);
            }
            Due.fails(x, Due.PLACE, 16, 0, rows, 0);
            Due.fails(x, Due.PLACE, 16, 0, -1, 0);
        }
    }

    private static void alarms() {
        RidingYard x = new RidingYard();
        Due.comes(x, 3, 12, 0, 3, 0);
        Due.fails(x, Due.NONE, 17, 0, 0, 0);
        x.hang(0, -9);
        Due.fails(x, Due.RAISED, 17, 0, 0, 0);
        Due.due("came()", x.came(), -9);
        Due.fails(x, Due.RAISED, 17, 0, 0, 0);
        Due.fails(x, Due.NONE, 17, 1, 0, 0);
        Due.due("came()", x.came(), -9);
        Due.due("count(11)", x.count(11), 2);
        Due.due("count(6)", x.count(6), 2);
    }

    /** Acts take a (and c, where it is a stall) modulo how many there are; -1 is then the last. */
    private static void namesModulo() {
        RidingYard x = new RidingYard();
        x.horse(9, 0, 90);
        x.horse(8, 0, 80);
        Due.comes(x, 90, 1, -1, 0, 0);
        Due.comes(x, 90, 1, 19, 0, 0);
        Due.comes(x, 80, 1, -12, 0, 0);
        x.horse(2, 0, 20);
        x.horse(7, 0, 70);
        Due.comes(x, 20, 1, Due.MIN, 0, 0);
        Due.comes(x, 70, 1, Due.MAX, 0, 0);
        x.lead(9, 5);
        Due.comes(x, 90, 5, -1, 0, 0);
        Due.comes(x, 90, 5, 11, 0, 0);
        Due.comes(x, 4, 7, -1, 0, 4);
        Due.comes(x, 4, 10, 5, 0, 0);
        Due.comes(x, 1, 8, 11, 3, -1);
        Due.comes(x, 1, 9, -7, 3, -10);
        Due.due("same(0, 9)", x.same(0, 9), 1);
        Due.comes(x, 2, 12, -1, 2, 0);
        Due.comes(x, 5, 13, 3, 0, 5);
        Due.comes(x, 5, 14, 7, 0, 0);
        Due.comes(x, 1, 15, -1, 1, 1);
        Due.comes(x, 1, 16, 3, 0, 0);
        Due.comes(x, 2, 16, 7, 0, 0);
        x.hang(5, 66);
        Due.fails(x, Due.RAISED, 17, -1, 0, 0);
        Due.due("came()", x.came(), 66);
        Due.fails(x, Due.RAISED, 17, 11, 0, 0);
        // Acts alone could all mean the same wrong place, so empty(), which takes no modulo, says which one it was.
        for (int sort = 2; sort <= 4; sort++) {
            int last = sort == 2 ? 5 : 3;
            Due.due("empty(" + sort + ", 0)", x.empty(sort, 0), 0);
            Due.due("empty(" + sort + ", " + last + ")", x.empty(sort, last), 1);
        }
    }

    private static void cameStays() {
        RidingYard x = new RidingYard();
        Due.due("came() at first", x.came(), 0);
        x.horse(0, 0, 12);
        Due.comes(x, 12, 1, 0, 0, 0);
        x.act(18, 0, 0, 0);
        x.act(1, 1, 0, 0);
        x.task(1, 0, 0, 0);
        Due.due("came()", x.came(), 12);
        Due.comes(x, 0, 2, 0, 5, 0);
        x.day();
        Due.due("came() after a task", x.came(), 12);
    }
}
