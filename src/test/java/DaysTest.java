/** Promises 10 to 13 and 17: the day, its tasks, what is put down of it, and the counts. */
public final class DaysTest {
    public static void main(String[] args) {
        promise10Task();
        promise11Clear();
        promise12Day();
        promise12DayEndsByRaised();
        promise13Book();
        promise13BookKeepsForty();
        promise17Count();
        promise17CountOutside();
        Due.end();
    }

    private static void promise10Task() {
        RidingYard x = new RidingYard();
        for (int act : new int[] {-1, 18, Due.MIN, Due.MAX}) {
            Due.due("task(" + act + ")", x.task(act, 0, 0, 0), Due.BAD);
        }
        Due.due("count(3)", x.count(3), 0);
        for (int i = 0; i < 20; i++) {
            Due.due("task " + i, x.task(i % 18, 0, 0, 0), i + 1);
        }
        Due.due("task 20", x.task(0, 0, 0, 0), Due.FULL);
        Due.due("task full and bad", x.task(18, 0, 0, 0), Due.BAD);
        Due.due("count(3)", x.count(3), 20);
        Due.due("a task does nothing yet", x.empty(2, 0), 0);
    }

    private static void promise11Clear() {
        RidingYard x = new RidingYard();
        Due.due("clear()", x.clear(), 0);
        x.task(1, 0, 0, 0);
        x.task(1, 0, 0, 0);
        x.day();
        Due.due("clear()", x.clear(), 2);
        Due.due("clear() again", x.clear(), 0);
        Due.due("count(3)", x.count(3), 0);
        Due.due("count(4)", x.count(4), 2);
        Due.due("book(1, 0)", x.book(1, 0), 1);
        Due.due("day()", x.day(), 0);
        Due.due("task", x.task(12, 3, 4, 0), 1);
        Due.due("day()", x.day(), 1);
        Due.due("came()", x.came(), 4);
    }

    private static void promise12Day() {
        RidingYard x = new RidingYard();
        x.horse(0, 1, 5);
        x.task(7, 0, 0, 2);
        x.task(8, 0, 0, 0);
        x.task(11, 0, 3, 0);
        x.task(8, 0, 1, 0);
        x.task(11, 0, 3, 0);
        x.task(17, 0, 0, 0);
        Due.due("day()", x.day(), 4);
        Due.due("came()", x.came(), 18);
        Due.tells(x, 0, 1, 5, 0, 0, 0, 18);
        Due.due("count(3)", x.count(3), 6);
        Due.due("day() again", x.day(), 4);
        Due.tells(x, 0, 1, 5, 0, 0, 0, 36);
        Due.due("count(6)", x.count(6), 4);
    }

    private static void promise12DayEndsByRaised() {
        RidingYard x = new RidingYard();
        x.hang(2, 808);
        x.task(12, 0, 1, 0);
        x.task(13, 0, 0, 6);
        x.task(17, 2, 0, 0);
        x.task(13, 0, 0, 6);
        Due.due("day()", x.day(), -11);
        Due.due("came()", x.came(), 808);
        Due.comes(x, 6, 14, 0, 0, 0);
        Due.due("book(0, 0)", x.book(0, 0), 2);
        Due.due("book(0, 1)", x.book(0, 1), 6);
        x.clear();
        x.task(14, 1, 0, 0);
        x.task(12, 1, -1, 0);
        x.task(17, 2, 0, 0);
        Due.due("day() raised by its last", x.day(), -13);
        Due.due("count(4)", x.count(4), 4);
        Due.due("count(11)", x.count(11), 2);
        x.empty(5, 2);
        Due.due("day() with nothing raised", x.day(), 0);
        Due.due("count(11)", x.count(11), 2);
    }

    private static void promise13Book() {
        RidingYard x = new RidingYard();
        x.wagon(0, 1);
        x.horse(0, 0, 1);
        x.act(7, 0, 1, 1);
        x.hang(0, 1);
        x.task(14, 0, 0, 0);
        x.task(1, 0, 0, 0);
        x.task(12, 0, -1, 0);
        x.task(5, 0, 0, 0);
        x.task(8, 0, 0, 0);
        x.task(8, 0, 1, 0);
        x.task(17, 0, 0, 0);
        x.act(14, 0, 0, 0);
        Due.due("act() puts nothing down", x.count(4), 0);
        Due.due("day()", x.day(), -16);
        int[] tasks = {0, 2, 3, 4, 5, 6};
        for (int i = 0; i < 6; i++) {
            Due.due("book(" + i + ", 0)", x.book(i, 0), tasks[i]);
            Due.due("book(" + i + ", 1)", x.book(i, 1), i + 1);
        }
        for (int i : new int[] {-1, 6, 39, 40, Due.MIN, Due.MAX}) {
            Due.due("book(" + i + ", 0)", x.book(i, 0), Due.BAD);
            Due.due("book(" + i + ", 1)", x.book(i, 1), Due.BAD);
        }
        for (int what : new int[] {-1, 2, Due.MIN, Due.MAX}) {
            Due.due("book(0, " + what + ")", x.book(0, what), Due.BAD);
        }
    }

    private static void promise13BookKeepsForty() {
        RidingYard x = new RidingYard();
        for (int i = 0; i < 19; i++) {
            x.task(1, i, 0, 0);
        }
        x.day();
        x.day();
        Due.due("count(4)", x.count(4), 38);
        Due.due("book(38, 0)", x.book(38, 0), Due.BAD);
        x.clear();
        x.horse(0, 0, 1);
        x.task(1, 0, 0, 0);
        for (int i = 0; i < 4; i++) {
            x.task(15, 0, -1, 0);
        }
        Due.due("day()", x.day(), 1);
        Due.due("count(4)", x.count(4), 42);
        for (int i = 0; i < 38; i++) {
            Due.due("book(" + i + ", 0)", x.book(i, 0), i % 19);
            Due.due("book(" + i + ", 1)", x.book(i, 1), 1);
        }
        Due.due("book(38, 0)", x.book(38, 0), 1);
        Due.due("book(39, 0)", x.book(39, 0), 2);
        Due.due("book(39, 1)", x.book(39, 1), 2);
        Due.due("book(40, 0)", x.book(40, 0), Due.BAD);
        Due.due("book(41, 1)", x.book(41, 1), Due.BAD);
        x.day();
        Due.due("count(4)", x.count(4), 46);
        Due.due("book(0, 1)", x.book(0, 1), 1);
        Due.due("book(39, 0)", x.book(39, 0), 2);
    }

    private static void promise17Count() {
        RidingYard x = new RidingYard();
        x.horse(0, 0, 1);
        x.horse(0, 0, 1);
        x.wagon(0, 1);
        x.wagon(0, 1);
        x.wagon(0, 1);
        x.hang(0, 1);
        x.act(7, 0, 1, 1);
        x.empty(0, 1);
        int[][] faulty = {{14, 0, 0, 0}, {12, 0, -1, 0}, {5, 0, 0, 0}, {8, 0, 0, 0}, {8, 0, 1, 0}, {17, 0, 0, 0}};
        for (int fault = 1; fault <= 6; fault++) {
            int[] f = faulty[fault - 1];
            x.task(f[0], f[1], f[2], f[3]);
            for (int times = 0; times < fault; times++) {
                Due.due("act for fault " + fault, x.act(f[0], f[1], f[2], f[3]), -10 - fault);
            }
        }
        x.day();
        int[] due = {2, 3, 1, 6, 6};
        for (int what = 0; what < due.length; what++) {
            Due.due("count(" + what + ")", x.count(what), due[what]);
        }
        for (int fault = 1; fault <= 6; fault++) {
            Due.due("count(" + (5 + fault) + ")", x.count(5 + fault), fault + 1);
        }
    }

    private static void promise17CountOutside() {
        RidingYard x = new RidingYard();
        x.horse(0, 0, 1);
        x.act(1, 0, 0, 0);
        for (int what : new int[] {-1, 5, 12, 13, Due.MIN, Due.MAX}) {
            Due.due("count(" + what + ")", x.count(what), Due.OUTSIDE);
        }
    }
}
