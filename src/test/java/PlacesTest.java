/** Promises 1 to 7 and 14 to 16: what stands in the places, and what is asked of it without an act. */
public final class PlacesTest {
    private static final int[] PLACES_OF_SORT = {10, 6, 6, 4, 4, 6};

    public static void main(String[] args) {
        promise1NewObject();
        promise2Horse();
        promise2HorseFull();
        promise3Wagon();
        promise4Lead();
        promise5Empty();
        promise5EmptyLeavesOthers();
        promise6Tear();
        promise7Hang();
        promise14HorseTells();
        promise15Shed();
        promise16Same();
        Due.end();
    }

    private static void promise1NewObject() {
        RidingYard x = new RidingYard();
        Due.due("came()", x.came(), 0);
        for (int what = 0; what <= 4; what++) {
            Due.due("new count(" + what + ")", x.count(what), 0);
        }
        for (int what = 6; what <= 11; what++) {
            Due.due("new count(" + what + ")", x.count(what), 0);
        }
        for (int sort = 0; sort < 6; sort++) {
            for (int k = 0; k < PLACES_OF_SORT[sort]; k++) {
                Due.due("new empty(" + sort + ", " + k + ")", x.empty(sort, k), 0);
            }
        }
        for (int k = 0; k < 10; k++) {
            Due.due("new horseTells(" + k + ", 0)", x.horseTells(k, 0), Due.BAD);
        }
        Due.due("new day()", x.day(), 0);
        Due.due("new clear()", x.clear(), 0);
        Due.due("new book(0, 0)", x.book(0, 0), Due.BAD);
        x.horse(0, 0, 1);
        Due.due("count(0) of another", new RidingYard().count(0), 0);
    }

    private static void promise2Horse() {
        RidingYard x = new RidingYard();
        for (int k = 0; k < 10; k++) {
            Due.due("horse(" + k + ")", x.horse(k, k % 3, 100 + k), k);
        }
        for (int k = 0; k < 10; k++) {
            Due.tells(x, k, k % 3, 100 + k, 0, 0, 0, 0);
        }
        Due.due("horse again", x.horse(4, 2, Due.MIN), 10);
        Due.tells(x, 4, 2, Due.MIN, 0, 0, 0, 0);
        int[][] bad = {{-1, 0}, {10, 0}, {Due.MIN, 0}, {Due.MAX, 0}, {0, -1}, {0, 3}, {0, Due.MIN}, {0, Due.MAX}};
        for (int[] b : bad) {
            Due.due("horse(" + b[0] + ", " + b[1] + ")", x.horse(b[0], b[1], 5), Due.BAD);
        }
        Due.due("count(0)", x.count(0), 11);
        Due.tells(x, 0, 0, 100, 0, 0, 0, 0);
    }

    private static void promise2HorseFull() {
        RidingYard x = new RidingYard();
        for (int i = 0; i < 60; i++) {
            Due.due("horse " + i, x.horse(3, 1, i), i);
        }
        Due.due("horse 60", x.horse(3, 2, 99), Due.FULL);
        Due.due("horse 60 elsewhere", x.horse(4, 2, 99), Due.FULL);
        Due.due("horse full and bad", x.horse(10, 2, 99), Due.BAD);
        Due.due("horse full and of no kind", x.horse(3, 3, 99), Due.BAD);
        Due.tells(x, 3, 1, 59, 0, 0, 0, 0);
        Due.due("stall 4", x.horseTells(4, 0), Due.BAD);
        Due.due("count(0)", x.count(0), 60);
        Due.due("empty(0, 3)", x.empty(0, 3), 1);
        Due.due("horse full for good", x.horse(3, 2, 99), Due.FULL);
    }

    private static void promise3Wagon() {
        RidingYard x = new RidingYard();
        for (int k = 0; k < 6; k++) {
            Due.due("wagon(" + k + ")", x.wagon(k, k), k);
            Due.due("shed(" + k + ")", x.shed(k), 2);
        }
        Due.comes(x, 10, 4, 5, 2, 0);
        Due.due("wagon(5) anew", x.wagon(5, 3), 6);
        Due.comes(x, 6, 4, 5, 2, 0);
        for (int k : new int[] {-1, 6, Due.MIN, Due.MAX}) {
            Due.due("wagon(" + k + ")", x.wagon(k, 1), Due.BAD);
        }
        Due.due("count(1)", x.count(1), 7);
        for (int i = 7; i < 60; i++) {
            Due.due("wagon " + i, x.wagon(0, i), i);
        }
        x.empty(1, 1);
        Due.due("wagon 60", x.wagon(1, 1), Due.FULL);
        Due.due("wagon full and bad", x.wagon(6, 1), Due.BAD);
        Due.due("shed(1)", x.shed(1), 0);
        Due.due("count(1)", x.count(1), 60);
        Due.comes(x, 59, 4, 0, 1, 0);
    }

    private static void promise4Lead() {
        RidingYard x = new RidingYard();
        x.horse(9, 1, 4);
        x.wagon(5, 1);
        Due.due("lead(9, 5)", x.lead(9, 5), 1);
        Due.due("shed(5)", x.shed(5), 1);
        Due.due("lead(9, 0)", x.lead(9, 0), 1);
        Due.comes(x, 6, 4, 5, 3, 0);
        Due.comes(x, 8, 4, 0, 1, 0);
        Due.tells(x, 9, 1, 4, 0, 0, 0, 8);
        int[][] bad = {{-1, 0}, {10, 0}, {0, -1}, {0, 6}, {Due.MIN, 0}, {0, Due.MAX}};
        for (int[] b : bad) {
            Due.due("lead(" + b[0] + ", " + b[1] + ")", x.lead(b[0], b[1]), Due.BAD);
        }
        Due.due("shed(0) after what was bad", x.shed(0), 1);
        x.wagon(3, 1);
        Due.due("lead none", x.lead(0, 3), 0);
        Due.due("shed(3)", x.shed(3), 0);
        Due.due("lead none again", x.lead(0, 3), 0);
    }

    private static void fill(RidingYard x, int sort, int k) {
        switch (sort) {
            case 0: x.horse(k, 0, 1); break;
            case 1: x.wagon(k, 1); break;
            case 2: x.act(7, k, 0, 0); break;
            case 3: x.act(12, k, 0, 0); break;
            case 4: x.act(15, k, 0, 0); break;
            default: x.hang(k, 1); break;
        }
    }

    private static void promise5Empty() {
        RidingYard x = new RidingYard();
        for (int sort = 0; sort < 6; sort++) {
            for (int k = 0; k < PLACES_OF_SORT[sort]; k++) {
                fill(x, sort, k);
            }
        }
        for (int sort = 0; sort < 6; sort++) {
            for (int k = 0; k < PLACES_OF_SORT[sort]; k++) {
                String call = "empty(" + sort + ", " + k + ")";
                Due.due(call, x.empty(sort, k), 1);
                Due.due(call + " again", x.empty(sort, k), 0);
            }
            for (int k : new int[] {-1, PLACES_OF_SORT[sort], Due.MIN, Due.MAX}) {
                Due.due("empty(" + sort + ", " + k + ")", x.empty(sort, k), Due.BAD);
            }
        }
        for (int sort : new int[] {-1, 6, Due.MIN, Due.MAX}) {
            Due.due("empty(" + sort + ", 0)", x.empty(sort, 0), Due.BAD);
        }
        Due.fails(x, Due.NONE, 1, 0, 0, 0);
        Due.fails(x, Due.NONE, 4, 0, 0, 0);
        Due.fails(x, Due.NONE, 10, 0, 0, 0);
        Due.fails(x, Due.NONE, 14, 0, 0, 0);
        Due.fails(x, Due.NONE, 16, 0, 0, 0);
        Due.fails(x, Due.NONE, 17, 0, 0, 0);
    }

    private static void promise5EmptyLeavesOthers() {
        RidingYard x = new RidingYard();
        x.horse(0, 2, 8);
        x.lead(0, 1);
        x.act(7, 2, 2, 1);
        x.act(8, 2, 0, 0);
        Due.due("empty(0, 0)", x.empty(0, 0), 1);
        Due.due("shed(1)", x.shed(1), 1);
        Due.comes(x, 3, 4, 1, 1, 0);
        Due.comes(x, 1, 9, 2, 0, 5);
        Due.tells(x, 5, 2, 8, 0, 0, 0, 3);
        Due.due("empty(1, 1)", x.empty(1, 1), 1);
        Due.due("empty(2, 2)", x.empty(2, 2), 1);
        Due.tells(x, 5, 2, 8, 0, 0, 0, 3);
        Due.due("count(0)", x.count(0), 1);
        x.act(7, 2, 2, 1);
        Due.comes(x, 0, 9, 2, 0, 6);
    }

    private static void promise6Tear() {
        RidingYard x = new RidingYard();
        for (int k = 0; k < 4; k++) {
            Due.due("tear none", x.tear(k, 0), Due.BAD);
        }
        x.act(15, 3, 4, 2);
        for (int table : new int[] {-1, 4, Due.MIN, Due.MAX}) {
            Due.due("tear(" + table + ", 0)", x.tear(table, 0), Due.BAD);
        }
        for (int row : new int[] {-1, 4, 5, 6, Due.MIN, Due.MAX}) {
            Due.due("tear(3, " + row + ")", x.tear(3, row), Due.BAD);
        }
        x.act(16, 3, 2, 1);
        Due.due("tear(3, 3)", x.tear(3, 3), 1);
        Due.due("tear(3, 3) again", x.tear(3, 3), 0);
        Due.due("tear(3, 0)", x.tear(3, 0), 1);
        Due.fails(x, Due.NONE, 16, 3, 3, 0);
        Due.fails(x, Due.NONE, 16, 3, 0, 0);
        Due.comes(x, 2, 16, 3, 2, 1);
        x.act(15, 3, 4, 2);
        Due.comes(x, 1, 16, 3, 3, 1);
        Due.comes(x, 1, 16, 3, 2, 1);
        Due.due("tear(3, 3) of a new one", x.tear(3, 3), 1);
        x.empty(4, 3);
        Due.due("tear(3, 2) of an emptied one", x.tear(3, 2), Due.BAD);
        x.act(15, 0, 2, 0);
        Due.due("tear a row of no ints", x.tear(0, 1), 1);
        x.act(15, 0, 0, 2);
        Due.due("tear without rows", x.tear(0, 0), Due.BAD);
    }

    private static void promise7Hang() {
        RidingYard x = new RidingYard();
        for (int k : new int[] {-1, 6, Due.MIN, Due.MAX}) {
            Due.due("hang(" + k + ")", x.hang(k, 1), Due.BAD);
        }
        for (int k = 0; k < 6; k++) {
            Due.due("hang(" + k + ")", x.hang(k, 50 + k), 1);
        }
        Due.due("hang(2) anew", x.hang(2, Due.MIN), 1);
        Due.fails(x, Due.RAISED, 17, 5, 0, 0);
        Due.due("came()", x.came(), 55);
        Due.fails(x, Due.RAISED, 17, 2, 0, 0);
        Due.due("came()", x.came(), Due.MIN);
        Due.due("count(2)", x.count(2), 7);
        for (int i = 7; i < 60; i++) {
            Due.due("hang " + i, x.hang(0, i), 1);
        }
        Due.due("hang 60", x.hang(0, 99), Due.FULL);
        Due.due("hang full and bad", x.hang(6, 99), Due.BAD);
        Due.due("count(2)", x.count(2), 60);
        Due.fails(x, Due.RAISED, 17, 0, 0, 0);
        Due.due("came()", x.came(), 59);
    }

    private static void promise14HorseTells() {
        RidingYard x = new RidingYard();
        x.horse(9, 2, -3);
        x.act(0, 9, 11, 0);
        x.act(3, 9, 0, 0);
        x.act(2, 9, 12, 0);
        x.lead(9, 0);
        x.act(4, 0, 7, 0);
        Due.tells(x, 9, 2, -3, 11, 12, 2, 15);
        for (int what : new int[] {-1, 6, Due.MIN, Due.MAX}) {
            Due.due("horseTells(9, " + what + ")", x.horseTells(9, what), Due.BAD);
            Due.due("horseTells(" + what + ", 0)", x.horseTells(what, 0), Due.BAD);
        }
        Due.due("horseTells(10, 0)", x.horseTells(10, 0), Due.BAD);
        for (int what = 0; what < 6; what++) {
            Due.due("horseTells of none", x.horseTells(8, what), Due.BAD);
        }
    }

    private static void promise15Shed() {
        RidingYard x = new RidingYard();
        for (int kind = 0; kind < 3; kind++) {
            x.horse(kind, kind, 1);
            x.lead(kind, kind);
            Due.due("shed(" + kind + ")", x.shed(kind), 1);
        }
        x.wagon(5, 1);
        Due.due("shed(5)", x.shed(5), 2);
        Due.due("shed(4)", x.shed(4), 0);
        x.wagon(0, 1);
        Due.due("shed(0)", x.shed(0), 2);
        for (int k : new int[] {-1, 6, Due.MIN, Due.MAX}) {
            Due.due("shed(" + k + ")", x.shed(k), Due.BAD);
        }
    }

    private static void promise16Same() {
        RidingYard x = new RidingYard();
        Due.due("same none both", x.same(0, 9), 1);
        x.horse(0, 1, 5);
        x.horse(9, 1, 5);
        Due.due("same of alike ones", x.same(0, 9), 0);
        Due.due("same of itself", x.same(0, 0), 1);
        Due.due("same of one and none", x.same(0, 1), 0);
        Due.due("same of none and one", x.same(1, 0), 0);
        x.act(7, 0, 0, 1);
        x.act(8, 0, 0, 0);
        x.act(9, 0, 0, 4);
        Due.due("same of one in two stalls", x.same(0, 4), 1);
        Due.due("same of the other", x.same(9, 4), 0);
        for (int k : new int[] {-1, 10, Due.MIN, Due.MAX}) {
            Due.due("same(" + k + ", 0)", x.same(k, 0), Due.BAD);
            Due.due("same(0, " + k + ")", x.same(0, k), Due.BAD);
            Due.due("same(" + k + ", " + k + ")", x.same(k, k), Due.BAD);
        }
    }
}
