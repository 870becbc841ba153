/**
 * Section 3 of the Terms, the promises 10 to 13 and 17, and the 512 calls that an object is used for: a test of its
 * own for each sentence that names a boundary case.
 */
public final class DayEdgesTest {
    private static final int[] FAR = {Due.MIN, Due.MIN + 1, -1000000001, -2, -1, 64, 1000000, Due.MAX - 1, Due.MAX};
    /** For each fault an act that meets it in the yard of faultyYard(). */
    private static final int[][] FAULTY = {
        {14, 0, 0, 0}, {12, 0, -1, 0}, {5, 0, 0, 0}, {8, 0, 0, 0}, {8, 0, 1, 0}, {17, 0, 0, 0}};

    public static void main(String[] args) {
        usedForFiveHundredTwelveCalls();
        twentyTasksAtMost();
        eachAnActWithNumbers();
        doneFromFirstOn();
        putDownNumberAndFault();
        fortyAtMostAreKept();
        countedAreAll();
        nextOneIsDone();
        raisedEndsTheDay();
        badIsNoSuchThing();
        outsideIsAnotherNumber();
        badChangesNothing();
        fullChangesNothing();
        taskHowMany();
        taskBad();
        taskFull();
        clearHowMany();
        dayMetNoFault();
        dayEndedByRaised();
        bookOfAllDays();
        bookNoneSuch();
        bookWhat();
        countEverMade();
        countTasks();
        countPutDownInAll();
        countFaults();
        countOutside();
        Due.end();
    }

    private static RidingYard faultyYard() {
        RidingYard x = new RidingYard();
        x.horse(0, 0, 1);
        x.wagon(0, 1);
        x.act(7, 0, 1, 1);
        x.hang(0, 70);
        return x;
    }

    private static void addFaulty(RidingYard x, int fault) {
        int[] f = FAULTY[fault - 1];
        x.task(f[0], f[1], f[2], f[3]);
    }

    private static void usedForFiveHundredTwelveCalls() {
        Due.sentence("What it is: An object is used for at most 512 calls after it has been made");
        RidingYard x = new RidingYard();
        x.horse(0, 2, 1);
        x.lead(0, 0);
        for (int i = 0; i < 19; i++) {
            x.task(4, 0, 1, 0);
        }
        x.task(14, 0, 0, 0);
        for (int call = 23; call <= 510; call++) {
            Due.answers(x, 19, "day");
        }
        Due.answers(x, 488, "count", 4);
        Due.answers(x, 488 * 19 * 3, "horseTells", 0, 5);
    }

    private static void twentyTasksAtMost() {
        Due.sentence("Terms: THE DAY has TASKS, 20 at most");
        RidingYard x = new RidingYard();
        for (int i = 1; i <= 20; i++) {
            Due.answers(x, i, "task", 12, 0, 1, 0);
        }
        Due.answers(x, Due.FULL, "task", 12, 0, 1, 0);
        Due.answers(x, 20, "day");
        Due.answers(x, 20, "count", 3);
    }

    private static void eachAnActWithNumbers() {
        Due.sentence("Terms: each an ACT with a, b, c");
        RidingYard x = new RidingYard();
        x.act(12, 3, 12, 0);
        int[] namesOfLedger3 = {3, -1, 11, Due.MAX};
        for (int i = 0; i < 20; i++) {
            x.task(13, namesOfLedger3[i % 4], i % 12, i == 19 ? Due.MIN : 100 + i);
        }
        Due.answers(x, 20, "day");
        for (int i = 0; i < 12; i++) {
            int due = 100 + i + (i < 7 ? 112 + i : i == 7 ? Due.MIN : 0);
            Due.comes(x, due, 13, 3, i, 0);
        }
    }

    private static void doneFromFirstOn() {
        Due.sentence("Terms: It is done from its first TASK on");
        RidingYard x = new RidingYard();
        x.task(13, 0, 0, 1);
        x.task(12, 0, 2, 0);
        x.task(13, 0, 0, 5);
        x.task(12, 0, 1, 0);
        x.task(13, 0, 1, 5);
        Due.answers(x, 3, "day");
        Due.answers(x, 0, "book", 0, 0);
        Due.answers(x, 4, "book", 1, 0);
        Due.comes(x, 0, 14, 0, 0, 0);
        // The tasks stay, and the next day is done from the first on, too.
        Due.answers(x, 4, "day");
        Due.answers(x, 4, "book", 2, 0);
    }

    private static void putDownNumberAndFault() {
        Due.sentence("Terms: one that meets a FAULT is put down (its number in THE DAY, the FAULT");
        RidingYard x = faultyYard();
        addFaulty(x, 1);
        for (int i = 1; i <= 13; i++) {
            x.task(12, 1, 1, 0);
        }
        for (int fault = 1; fault <= 6; fault++) {
            addFaulty(x, fault);
        }
        Due.answers(x, -17, "day");
        Due.answers(x, 7, "count", 4);
        Due.answers(x, 0, "book", 0, 0);
        Due.answers(x, 1, "book", 0, 1);
        for (int fault = 1; fault <= 6; fault++) {
            Due.answers(x, 13 + fault, "book", fault, 0);
            Due.answers(x, fault, "book", fault, 1);
        }
        Due.answers(x, Due.BAD, "book", 7, 0);
    }

    private static void fortyAtMostAreKept() {
        Due.sentence("Terms: 40 at most are kept");
        RidingYard x = faultyYard();
        x.task(12, 1, 1, 0);
        for (int i = 1; i < 20; i++) {
            addFaulty(x, 1 + i % 5);
        }
        x.day();
        x.day();
        Due.answers(x, Due.BAD, "book", 38, 0);
        // The third day crosses the limit: its first two are kept.
        x.day();
        for (int i = 0; i < 40; i++) {
            Due.answers(x, 1 + i % 19, "book", i, 0);
            Due.answers(x, 1 + (1 + i % 19) % 5, "book", i, 1);
        }
        Due.answers(x, Due.BAD, "book", 40, 0);
        Due.answers(x, Due.BAD, "book", 40, 1);
        x.clear();
        addFaulty(x, 6);
        x.day();
        Due.answers(x, 2, "book", 39, 0);
        Due.answers(x, 3, "book", 39, 1);
        Due.answers(x, 1, "book", 0, 0);
        Due.answers(x, Due.BAD, "book", 40, 0);
    }

    private static void countedAreAll() {
        Due.sentence("Terms: counted are all");
        RidingYard x = new RidingYard();
        for (int i = 0; i < 20; i++) {
            x.task(14, 0, 0, 0);
        }
        for (int days = 1; days <= 5; days++) {
            x.day();
            Due.answers(x, 20 * days, "count", 4);
            Due.answers(x, 20 * days, "count", 6);
        }
        x.clear();
        Due.answers(x, 100, "count", 4);
    }

    private static void nextOneIsDone() {
        Due.sentence("Terms: and the next one is done");
        for (int fault = 1; fault <= 5; fault++) {
            RidingYard x = faultyYard();
            addFaulty(x, fault);
            x.task(12, 3, 7, 0);
            addFaulty(x, fault);
            x.task(12, 3, 8, 0);
            Due.answers(x, 2, "day");
            Due.answers(x, 8, "came");
            Due.answers(x, 2, "count", 4);
        }
    }

    private static void raisedEndsTheDay() {
        Due.sentence("Terms: but a RAISED ends THE DAY");
        for (int at : new int[] {0, 1, 18, 19}) {
            RidingYard x = faultyYard();
            x.act(12, 0, 1, 0);
            for (int i = 0; i < 20; i++) {
                x.task(i == at ? 17 : 13, 0, 0, 1);
            }
            Due.answers(x, -11, "day");
            Due.answers(x, 70, "came");
            Due.comes(x, at, 14, 0, 0, 0);
            Due.answers(x, at, "book", 0, 0);
            Due.answers(x, 6, "book", 0, 1);
            // The tasks stay, and with no alarm there the day goes on over what is then NONE.
            Due.answers(x, 20, "count", 3);
            x.empty(5, 0);
            Due.answers(x, 19, "day");
            Due.comes(x, at + 19, 14, 0, 0, 0);
            Due.answers(x, 1, "book", 1, 1);
        }
    }

    private static void badIsNoSuchThing() {
        Due.sentence("Terms: BAD: there is no such thing, ACT, what");
        RidingYard x = Twins.mixed();
        Due.answers(x, Due.BAD, "horse", 10, 0, 1);
        Due.answers(x, Due.BAD, "horse", 0, 3, 1);
        Due.answers(x, Due.BAD, "wagon", 6, 1);
        Due.answers(x, Due.BAD, "lead", 10, 0);
        Due.answers(x, Due.BAD, "lead", 0, 6);
        Due.answers(x, Due.BAD, "empty", 6, 0);
        Due.answers(x, Due.BAD, "tear", 1, 0);
        Due.answers(x, Due.BAD, "tear", 0, 2);
        Due.answers(x, Due.BAD, "hang", 6, 1);
        Due.answers(x, Due.BAD, "act", 18, 0, 0, 0);
        Due.answers(x, Due.BAD, "task", 18, 0, 0, 0);
        Due.answers(x, Due.BAD, "book", 2, 0);
        Due.answers(x, Due.BAD, "book", 0, 2);
        Due.answers(x, Due.BAD, "horseTells", 0, 6);
        Due.answers(x, Due.BAD, "shed", 6);
        Due.answers(x, Due.BAD, "same", 0, 10);
    }

    private static void outsideIsAnotherNumber() {
        Due.sentence("Terms: OUTSIDE: another number is not as told");
        RidingYard x = Twins.mixed();
        for (int what : new int[] {-1, 5, 12}) {
            Due.answers(x, Due.OUTSIDE, "count", what);
        }
    }

    private static void badChangesNothing() {
        Due.sentence("Terms: BAD, OUTSIDE: they change nothing.");
        for (int n : new int[] {Due.MIN, -1, 10, Due.MAX}) {
            Twins.refuses(false, Due.BAD, "horse", n, 0, 1);
            Twins.refuses(false, Due.BAD, "horse", 0, n, 1);
            Twins.refuses(false, Due.BAD, "wagon", n, 1);
            Twins.refuses(false, Due.BAD, "lead", n, 0);
            Twins.refuses(false, Due.BAD, "lead", 0, n);
            Twins.refuses(false, Due.BAD, "tear", n, 0);
            Twins.refuses(false, Due.BAD, "tear", 0, n);
            Twins.refuses(false, Due.BAD, "hang", n, 1);
            Twins.refuses(false, Due.BAD, "empty", n, 0);
            for (int sort = 0; sort < 6; sort++) {
                Twins.refuses(false, Due.BAD, "empty", sort, n);
            }
            Twins.refuses(false, Due.BAD, "book", n, 0);
            Twins.refuses(false, Due.BAD, "book", 0, n);
            Twins.refuses(false, Due.BAD, "horseTells", n, 0);
            Twins.refuses(false, Due.BAD, "horseTells", 0, n);
            Twins.refuses(false, Due.BAD, "shed", n);
            Twins.refuses(false, Due.BAD, "same", n, 0);
        }
        for (int n : new int[] {Due.MIN, -1, 18, Due.MAX}) {
            Twins.refuses(false, Due.BAD, "act", n, 0, 0, 0);
            Twins.refuses(false, Due.BAD, "task", n, 0, 0, 0);
            Twins.refuses(true, Due.BAD, "task", n, 0, 0, 0);
            Twins.refuses(false, Due.OUTSIDE, "count", n);
        }
        Twins.refuses(false, Due.BAD, "tear", 1, 0);
        Twins.refuses(false, Due.BAD, "tear", 2, 0);
        Twins.refuses(false, Due.BAD, "horse", 0, 3, 1);
        Twins.refuses(false, Due.BAD, "lead", 0, 6);
        Twins.refuses(false, Due.OUTSIDE, "count", 5);
    }

    private static void fullChangesNothing() {
        Due.sentence("Terms: FULL: they change nothing.");
        Twins.refuses(true, Due.FULL, "horse", 0, 2, 1);
        Twins.refuses(true, Due.FULL, "horse", 9, 2, 1);
        Twins.refuses(true, Due.FULL, "wagon", 0, 9);
        Twins.refuses(true, Due.FULL, "wagon", 3, 9);
        Twins.refuses(true, Due.FULL, "hang", 0, 9);
        Twins.refuses(true, Due.FULL, "hang", 1, 9);
        Twins.refuses(true, Due.FULL, "task", 0, 0, 9, 0);
        Twins.refuses(true, Due.FULL, "task", 17, 0, 0, 0);
    }

    private static void taskHowMany() {
        Due.sentence("Promise 10: A TASK comes behind THE DAY: how many.");
        RidingYard x = new RidingYard();
        Due.answers(x, 1, "task", 12, 0, 1, 0);
        Due.answers(x, 1, "day");
        Due.answers(x, 2, "task", 13, 0, 0, 6);
        Due.answers(x, 3, "task", 13, 0, 0, 7);
        // Nothing is done before the day is.
        Due.comes(x, 0, 14, 0, 0, 0);
        Due.answers(x, 3, "day");
        Due.comes(x, 13, 14, 0, 0, 0);
        x.clear();
        Due.answers(x, 1, "task", 12, 0, 1, 0);
    }

    private static void taskBad() {
        Due.sentence("Promise 10: BAD");
        RidingYard x = new RidingYard();
        for (int n : FAR) {
            Due.answers(x, Due.BAD, "task", n, 0, 0, 0);
        }
        Due.answers(x, Due.BAD, "task", 18, 0, 0, 0);
        Due.answers(x, 0, "count", 3);
        Due.answers(x, 1, "task", 17, 0, 0, 0);
        // There is no wrong a, b or c, and what an act will meet is not asked yet.
        Due.answers(x, 2, "task", 0, Due.MIN, Due.MAX, -1);
        Due.answers(x, 3, "task", 12, -1, -1, Due.MAX);
    }

    private static void taskFull() {
        Due.sentence("Promise 10: FULL.");
        RidingYard x = new RidingYard();
        for (int i = 1; i <= 20; i++) {
            x.task(12, 0, 5, 0);
        }
        Due.answers(x, Due.FULL, "task", 12, 1, 6, 0);
        Due.answers(x, Due.BAD, "task", 18, 1, 6, 0);
        Due.answers(x, 20, "day");
        Due.answers(x, 5, "came");
        Due.answers(x, Due.FULL, "task", 12, 1, 6, 0);
        Due.answers(x, 20, "clear");
        Due.answers(x, 1, "task", 12, 1, 6, 0);
    }

    private static void clearHowMany() {
        Due.sentence("Promise 11: THE DAY has no TASKS: how many it had.");
        RidingYard x = new RidingYard();
        Due.answers(x, 0, "clear");
        x.task(14, 0, 0, 0);
        Due.answers(x, 1, "clear");
        Due.answers(x, 0, "clear");
        for (int i = 0; i < 20; i++) {
            x.task(14, 0, 0, 0);
        }
        x.day();
        Due.answers(x, 20, "clear");
        Due.answers(x, 0, "count", 3);
        Due.answers(x, 0, "day");
        Due.answers(x, 20, "count", 4);
        Due.answers(x, 19, "book", 19, 0);
        Due.answers(x, 20, "count", 6);
    }

    private static void dayMetNoFault() {
        Due.sentence("Promise 12: THE DAY is done: how many TASKS met no FAULT");
        RidingYard x = new RidingYard();
        Due.answers(x, 0, "day");
        x.task(14, 0, 0, 0);
        Due.answers(x, 0, "day");
        x.clear();
        for (int good = 1; good <= 20; good++) {
            x.task(12, 0, 1, 0);
            Due.answers(x, good, "day");
        }
        x.clear();
        for (int i = 0; i < 20; i++) {
            x.task(i % 2 == 0 ? 14 : 12, 1, 1, 0);
        }
        Due.answers(x, 19, "day");
        Due.answers(x, 20, "day");
    }

    private static void dayEndedByRaised() {
        Due.sentence("Promise 12: if it was ended by a RAISED: -10 less how many TASKS met a FAULT (that one, too).");
        for (int ahead = 0; ahead <= 19; ahead++) {
            RidingYard x = faultyYard();
            for (int i = 0; i < ahead; i++) {
                addFaulty(x, 1 + i % 5);
            }
            addFaulty(x, 6);
            for (int i = ahead + 1; i < 20; i++) {
                addFaulty(x, 1);
            }
            Due.answers(x, -11 - ahead, "day");
            Due.answers(x, ahead + 1, "count", 4);
            Due.answers(x, -11 - ahead, "day");
        }
        // What met no fault ahead of it is not told.
        RidingYard x = faultyYard();
        for (int i = 0; i < 19; i++) {
            x.task(12, 1, 1, 0);
        }
        addFaulty(x, 6);
        Due.answers(x, -11, "day");
    }

    private static void bookOfAllDays() {
        Due.sentence("Promise 13: Of what is put down of all DAYS, i from 0: 0 the TASK, 1 the FAULT.");
        RidingYard x = faultyYard();
        for (int fault = 1; fault <= 6; fault++) {
            x.clear();
            x.task(12, 1, 1, 0);
            addFaulty(x, fault);
            addFaulty(x, fault);
            x.day();
        }
        for (int i = 0; i < 11; i++) {
            Due.answers(x, 1 + i % 2, "book", i, 0);
            Due.answers(x, 1 + i / 2, "book", i, 1);
        }
        Due.answers(x, Due.BAD, "book", 11, 0);
    }

    private static void bookNoneSuch() {
        Due.sentence("Promise 13: BAD: there is none such");
        RidingYard x = new RidingYard();
        Due.answers(x, Due.BAD, "book", 0, 0);
        Due.answers(x, Due.BAD, "book", 0, 1);
        // An act is no task: nothing is put down of it.
        x.act(14, 0, 0, 0);
        Due.answers(x, Due.BAD, "book", 0, 1);
        x.task(14, 0, 0, 0);
        Due.answers(x, Due.BAD, "book", 0, 1);
        for (int days = 1; days <= 41; days++) {
            x.day();
            Due.answers(x, 1, "book", Math.min(days, 40) - 1, 1);
            Due.answers(x, Due.BAD, "book", Math.min(days, 40), 0);
        }
        for (int n : FAR) {
            Due.answers(x, Due.BAD, "book", n, 0);
            Due.answers(x, Due.BAD, "book", n, 1);
        }
    }

    private static void bookWhat() {
        Due.sentence("Promise 13: BAD: what.");
        RidingYard x = new RidingYard();
        x.task(14, 0, 0, 0);
        x.day();
        for (int n : FAR) {
            Due.answers(x, Due.BAD, "book", 0, n);
            Due.answers(x, Due.BAD, "book", n, n);
        }
        Due.answers(x, Due.BAD, "book", 0, 2);
        Due.answers(x, 0, "book", 0, 0);
        Due.answers(x, 1, "book", 0, 1);
    }

    private static void countEverMade() {
        Due.sentence("Promise 17: 0 HORSES, 1 WAGONS, 2 ALARMS ever made");
        RidingYard x = new RidingYard();
        for (int what = 0; what <= 2; what++) {
            Due.answers(x, 0, "count", what);
        }
        for (int i = 1; i <= 61; i++) {
            x.horse(0, 0, 1);
            x.empty(0, 0);
            Due.answers(x, Math.min(i, 60), "count", 0);
        }
        for (int i = 1; i <= 61; i++) {
            x.wagon(5, 1);
            Due.answers(x, Math.min(i, 60), "count", 1);
        }
        for (int i = 1; i <= 61; i++) {
            x.hang(5, 1);
            Due.answers(x, Math.min(i, 60), "count", 2);
        }
        Due.answers(x, 60, "count", 0);
        Due.answers(x, 60, "count", 1);
    }

    private static void countTasks() {
        Due.sentence("Promise 17: 3 TASKS");
        RidingYard x = new RidingYard();
        Due.answers(x, 0, "count", 3);
        for (int i = 1; i <= 21; i++) {
            x.task(12, 0, 1, 0);
            Due.answers(x, Math.min(i, 20), "count", 3);
        }
        x.day();
        Due.answers(x, 20, "count", 3);
        x.clear();
        Due.answers(x, 0, "count", 3);
    }

    private static void countPutDownInAll() {
        Due.sentence("Promise 17: 4 what is put down in all");
        RidingYard x = new RidingYard();
        Due.answers(x, 0, "count", 4);
        x.act(14, 0, 0, 0);
        x.task(14, 0, 0, 0);
        Due.answers(x, 0, "count", 4);
        for (int days = 1; days <= 45; days++) {
            x.day();
            Due.answers(x, days, "count", 4);
        }
    }

    private static void countFaults() {
        Due.sentence("Promise 17: 5 + f how often FAULT f was met (6 .. 11), by act() and in DAYS.");
        for (int fault = 1; fault <= 6; fault++) {
            RidingYard x = faultyYard();
            int[] f = FAULTY[fault - 1];
            Due.answers(x, 0, "count", 5 + fault);
            Due.answers(x, -10 - fault, "act", f[0], f[1], f[2], f[3]);
            Due.answers(x, 1, "count", 5 + fault);
            addFaulty(x, fault);
            x.day();
            x.day();
            Due.answers(x, -10 - fault, "act", f[0], f[1], f[2], f[3]);
            for (int other = 1; other <= 6; other++) {
                Due.answers(x, other == fault ? 4 : 0, "count", 5 + other);
            }
        }
    }

    private static void countOutside() {
        Due.sentence("Promise 17: OUTSIDE.");
        RidingYard x = faultyYard();
        // Acts that met no fault are counted nowhere.
        x.act(12, 0, 1, 0);
        for (int n : FAR) {
            Due.answers(x, Due.OUTSIDE, "count", n);
        }
        Due.answers(x, Due.OUTSIDE, "count", 5);
        Due.answers(x, Due.OUTSIDE, "count", 12);
        Due.answers(x, 0, "count", 11);
        Due.answers(x, 0, "count", 6);
    }
}
