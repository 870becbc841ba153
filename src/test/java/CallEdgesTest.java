/**
 * The promises 1 to 9 and 14 to 16: a test of its own for each sentence that names a boundary case. What a sentence
 * calls BAD or FULL is looked at here for its answer; DayEdgesTest looks whether it changes nothing.
 */
public final class CallEdgesTest {
    private static final int[] PLACES_OF_SORT = {10, 6, 6, 4, 4, 6};
    private static final int[] FAR = {Due.MIN, Due.MIN + 1, -1000000001, -2, -1, 64, 1000000, Due.MAX - 1, Due.MAX};

    public static void main(String[] args) {
        newObject();
        horseAheadOfIt();
        horseBad();
        horseFull();
        wagonHowMany();
        wagonBad();
        wagonFull();
        leadOrNone();
        leadBad();
        emptyHeldSomething();
        emptyBad();
        tearWasOne();
        tearBad();
        tearNoTable();
        tearNoRow();
        hangNewAlarm();
        hangBad();
        hangFull();
        actAnswers();
        actBad();
        cameLatest();
        cameByTask();
        cameRaised();
        cameAtFirst();
        horseTells();
        horseTellsBad();
        horseTellsNone();
        shedHolds();
        shedBad();
        sameHorse();
        sameNoneBoth();
        sameBad();
        Due.end();
    }

    private static void newObject() {
        Due.sentence("Promise 1: All places hold none; THE DAY has no TASKS.");
        RidingYard x = new RidingYard();
        Due.answers(x, 0, "count", 3);
        Due.answers(x, 0, "day");
        Due.answers(x, 0, "clear");
        for (int k = 0; k < 10; k++) {
            Due.answers(x, Due.BAD, "horseTells", k, 0);
            Due.answers(x, 1, "same", 0, k);
        }
        for (int sort = 0; sort < 6; sort++) {
            for (int k = 0; k < PLACES_OF_SORT[sort]; k++) {
                Due.answers(x, 0, "empty", sort, k);
            }
        }
        // What one yard holds is nothing to another.
        Twins.mixed();
        RidingYard other = new RidingYard();
        Due.answers(other, 0, "count", 0);
        Due.answers(other, 0, "empty", 2, 0);
        Due.answers(other, 0, "empty", 0, 0);
        Due.answers(other, 0, "clear");
    }

    private static void horseAheadOfIt() {
        Due.sentence("Promise 2: A new HORSE stands in a STALL: how many there were ahead of it.");
        RidingYard x = new RidingYard();
        Due.answers(x, 0, "horse", 9, 2, 5);
        x.lead(9, 0);
        x.act(0, 9, 3, 0);
        // In a stall that holds one already: the new one stands there, and the old one is where else it is.
        Due.answers(x, 1, "horse", 9, 0, 6);
        Due.tells(x, 9, 0, 6, 0, 0, 0, 0);
        Due.comes(x, 5, 5, 0, 0, 0);
        // One that no place holds any more was there ahead of it, too.
        x.empty(0, 9);
        Due.answers(x, 2, "horse", 9, 1, Due.MIN);
        Due.answers(x, 3, "horse", 0, 1, Due.MAX);
        Due.tells(x, 9, 1, Due.MIN, 0, 0, 0, 0);
        Due.tells(x, 0, 1, Due.MAX, 0, 0, 0, 0);
    }

    private static void horseBad() {
        Due.sentence("Promise 2: BAD: also the KIND");
        RidingYard x = new RidingYard();
        for (int n : FAR) {
            Due.answers(x, Due.BAD, "horse", n, 0, 1);
            Due.answers(x, Due.BAD, "horse", 0, n, 1);
            Due.answers(x, Due.BAD, "horse", n, n, 1);
        }
        Due.answers(x, Due.BAD, "horse", 10, 2, 1);
        Due.answers(x, Due.BAD, "horse", 9, 3, 1);
        Due.answers(x, 0, "horse", 9, 2, 1);
    }

    private static void horseFull() {
        Due.sentence("Promise 2: FULL: 60.");
        RidingYard x = new RidingYard();
        for (int i = 0; i < 60; i++) {
            Due.answers(x, i, "horse", i % 10, i % 3, i);
        }
        Due.answers(x, Due.FULL, "horse", 0, 0, 1);
        Due.answers(x, 60, "count", 0);
        Due.answers(x, 59, "horseTells", 9, 1);
        x.empty(0, 0);
        Due.answers(x, Due.FULL, "horse", 0, 0, 1);
        Due.answers(x, Due.BAD, "horse", 10, 0, 1);
        Due.answers(x, Due.BAD, "horse", 0, 3, 1);
        // The other limits are their own.
        Due.answers(x, 0, "wagon", 0, 1);
        Due.answers(x, 1, "hang", 0, 1);
    }

    private static void wagonHowMany() {
        Due.sentence("Promise 3: A new WAGON stands in a SHED: how many there were.");
        RidingYard x = new RidingYard();
        x.horse(0, 0, 1);
        x.lead(0, 5);
        Due.answers(x, 0, "wagon", 5, 4);
        Due.answers(x, 2, "shed", 5);
        Due.comes(x, 8, 4, 5, 2, 0);
        Due.answers(x, 1, "wagon", 5, Due.MAX);
        Due.comes(x, Due.MAX, 4, 5, 1, 0);
        x.empty(1, 5);
        Due.answers(x, 2, "wagon", 0, Due.MIN);
        Due.comes(x, Due.MIN, 4, 0, 1, 0);
        Due.answers(x, 0, "shed", 5);
    }

    private static void wagonBad() {
        Due.sentence("Promise 3: BAD");
        RidingYard x = new RidingYard();
        for (int n : FAR) {
            Due.answers(x, Due.BAD, "wagon", n, 1);
        }
        Due.answers(x, Due.BAD, "wagon", 6, 1);
        Due.answers(x, 0, "wagon", 5, 1);
    }

    private static void wagonFull() {
        Due.sentence("Promise 3: FULL: 60.");
        RidingYard x = new RidingYard();
        for (int i = 0; i < 60; i++) {
            Due.answers(x, i, "wagon", i % 6, i);
        }
        Due.answers(x, Due.FULL, "wagon", 5, 1);
        Due.comes(x, 59, 4, 5, 1, 0);
        x.empty(1, 5);
        Due.answers(x, Due.FULL, "wagon", 5, 1);
        Due.answers(x, 0, "shed", 5);
        Due.answers(x, 60, "count", 1);
        Due.answers(x, Due.BAD, "wagon", 6, 1);
        Due.answers(x, 0, "horse", 0, 0, 1);
        Due.answers(x, 1, "hang", 0, 1);
    }

    private static void leadOrNone() {
        Due.sentence("Promise 4: A SHED holds what a STALL holds (or none): 1, 0.");
        RidingYard x = new RidingYard();
        x.horse(9, 2, 31);
        x.horse(0, 0, 30);
        x.wagon(5, 1);
        Due.answers(x, 1, "lead", 9, 5);
        Due.comes(x, 31, 5, 5, 0, 0);
        Due.answers(x, 31, "horseTells", 9, 1);
        Due.answers(x, 1, "lead", 0, 5);
        Due.comes(x, 30, 5, 5, 0, 0);
        Due.answers(x, 0, "lead", 8, 5);
        Due.answers(x, 0, "shed", 5);
        Due.answers(x, 0, "lead", 8, 5);
        // A wagon goes, too, when none is led in.
        x.wagon(0, 1);
        Due.answers(x, 0, "lead", 8, 0);
        Due.answers(x, 0, "shed", 0);
    }

    private static void leadBad() {
        Due.sentence("Promise 4: BAD.");
        RidingYard x = new RidingYard();
        x.horse(0, 0, 1);
        for (int n : FAR) {
            Due.answers(x, Due.BAD, "lead", n, 0);
            Due.answers(x, Due.BAD, "lead", 0, n);
            Due.answers(x, Due.BAD, "lead", n, n);
        }
        Due.answers(x, Due.BAD, "lead", 10, 5);
        Due.answers(x, Due.BAD, "lead", 9, 6);
        Due.answers(x, 0, "lead", 9, 5);
    }

    private static void emptyHeldSomething() {
        Due.sentence("Promise 5: A STALL (sort 0), SHED (1), TEAM (2), LEDGER (3), TABLE (4), HOOK (5) holds none: "
            + "1 if it held something, else 0.");
        for (int sort = 0; sort < 6; sort++) {
            for (int k : new int[] {0, PLACES_OF_SORT[sort] - 1}) {
                RidingYard x = new RidingYard();
                Due.answers(x, 0, "empty", sort, k);
                fillAll(x, sort);
                Due.answers(x, 1, "empty", sort, k);
                Due.answers(x, 0, "empty", sort, k);
                for (int other = 0; other < PLACES_OF_SORT[sort]; other++) {
                    Due.answers(x, other == k ? 0 : 1, "empty", sort, other);
                }
            }
        }
    }

    /** With the smallest that there is: a team without places, a ledger without ints, a table without rows. */
    private static void fillAll(RidingYard x, int sort) {
        for (int k = 0; k < PLACES_OF_SORT[sort]; k++) {
            switch (sort) {
                case 0: x.horse(k, 0, 0); break;
                case 1: x.wagon(k, 0); break;
                case 2: x.act(7, k, 0, 0); break;
                case 3: x.act(12, k, 0, 0); break;
                case 4: x.act(15, k, 0, 0); break;
                default: x.hang(k, 0); break;
            }
        }
    }

    private static void emptyBad() {
        Due.sentence("Promise 5: BAD.");
        RidingYard x = new RidingYard();
        for (int n : FAR) {
            Due.answers(x, Due.BAD, "empty", n, 0);
            Due.answers(x, Due.BAD, "empty", n, n);
            for (int sort = 0; sort < 6; sort++) {
                Due.answers(x, Due.BAD, "empty", sort, n);
            }
        }
        Due.answers(x, Due.BAD, "empty", 6, 0);
        for (int sort = 0; sort < 6; sort++) {
            Due.answers(x, Due.BAD, "empty", sort, PLACES_OF_SORT[sort]);
            Due.answers(x, 0, "empty", sort, PLACES_OF_SORT[sort] - 1);
        }
    }

    private static void tearWasOne() {
        Due.sentence("Promise 6: ROW i of a TABLE is none: 1 if it was one, 0.");
        RidingYard x = new RidingYard();
        x.act(15, 3, 6, 6);
        x.act(15, 0, 6, 0);
        for (int i : new int[] {0, 5}) {
            Due.answers(x, 1, "tear", 3, i);
            Due.answers(x, 0, "tear", 3, i);
            Due.answers(x, 0, "tear", 3, i);
            // A row of no ints is one.
            Due.answers(x, 1, "tear", 0, i);
            Due.answers(x, 0, "tear", 0, i);
        }
        Due.answers(x, 1, "tear", 3, 1);
        Due.fails(x, Due.NONE, 16, 3, 5, 0);
        // Of a table all whose rows are none there is still the table.
        for (int i = 2; i < 5; i++) {
            Due.answers(x, 1, "tear", 3, i);
        }
        Due.answers(x, 1, "empty", 4, 3);
    }

    private static void tearBad() {
        Due.sentence("Promise 6: BAD");
        RidingYard x = new RidingYard();
        x.act(15, 0, 6, 6);
        x.act(15, 3, 6, 6);
        for (int n : FAR) {
            Due.answers(x, Due.BAD, "tear", n, 0);
            Due.answers(x, Due.BAD, "tear", n, n);
        }
        Due.answers(x, Due.BAD, "tear", 4, 0);
        Due.answers(x, 1, "tear", 3, 0);
        Due.answers(x, 1, "tear", 0, 0);
    }

    private static void tearNoTable() {
        Due.sentence("Promise 6: BAD: also a TABLE that is none");
        RidingYard x = new RidingYard();
        for (int table = 0; table < 4; table++) {
            Due.answers(x, Due.BAD, "tear", table, 0);
            x.act(15, table, 6, 6);
            Due.answers(x, 1, "tear", table, 0);
            x.empty(4, table);
            Due.answers(x, Due.BAD, "tear", table, 0);
            Due.answers(x, Due.BAD, "tear", table, 1);
        }
    }

    private static void tearNoRow() {
        Due.sentence("Promise 6: a ROW that there is not.");
        RidingYard x = new RidingYard();
        x.act(15, 3, 6, 6);
        for (int n : FAR) {
            Due.answers(x, Due.BAD, "tear", 3, n);
        }
        for (int rows = 0; rows <= 6; rows++) {
            x.act(15, 3, rows, 6);
            Due.answers(x, Due.BAD, "tear", 3, rows);
            Due.answers(x, Due.BAD, "tear", 3, 6);
            Due.answers(x, rows > 0 ? 1 : Due.BAD, "tear", 3, rows - 1);
        }
    }

    private static void hangNewAlarm() {
        Due.sentence("Promise 7: A HOOK gets a new ALARM: 1.");
        RidingYard x = new RidingYard();
        Due.answers(x, 1, "hang", 5, Due.MAX);
        Due.fails(x, Due.RAISED, 17, 5, 0, 0);
        Due.answers(x, Due.MAX, "came");
        Due.answers(x, 1, "hang", 5, Due.MIN);
        Due.fails(x, Due.RAISED, 17, 5, 0, 0);
        Due.answers(x, Due.MIN, "came");
        Due.answers(x, 1, "hang", 0, 7);
        Due.fails(x, Due.RAISED, 17, 5, 0, 0);
        Due.answers(x, Due.MIN, "came");
        Due.answers(x, 3, "count", 2);
    }

    private static void hangBad() {
        Due.sentence("Promise 7: BAD");
        RidingYard x = new RidingYard();
        for (int n : FAR) {
            Due.answers(x, Due.BAD, "hang", n, 1);
        }
        Due.answers(x, Due.BAD, "hang", 6, 1);
        Due.answers(x, 1, "hang", 5, 1);
        Due.answers(x, 1, "count", 2);
    }

    private static void hangFull() {
        Due.sentence("Promise 7: FULL: 60.");
        RidingYard x = new RidingYard();
        for (int i = 0; i < 60; i++) {
            Due.answers(x, 1, "hang", i % 6, i);
        }
        Due.answers(x, Due.FULL, "hang", 5, 1);
        Due.fails(x, Due.RAISED, 17, 5, 0, 0);
        Due.answers(x, 59, "came");
        x.empty(5, 5);
        Due.answers(x, Due.FULL, "hang", 5, 1);
        Due.fails(x, Due.NONE, 17, 5, 0, 0);
        Due.answers(x, 60, "count", 2);
        Due.answers(x, Due.BAD, "hang", 6, 1);
        Due.answers(x, 0, "horse", 0, 0, 1);
        Due.answers(x, 0, "wagon", 0, 1);
    }

    private static void actAnswers() {
        Due.sentence("Promise 8: An ACT: 1, and what it came to is told by came(); -10 less the FAULT.");
        RidingYard x = new RidingYard();
        Due.answers(x, 1, "act", 12, 0, 9, 0);
        Due.answers(x, 9, "came");
        x.horse(0, 0, 1);
        x.wagon(0, 1);
        x.hang(0, 1);
        x.act(7, 0, 2, 1);
        Due.answers(x, -11, "act", 1, 1, 0, 0);
        Due.answers(x, -12, "act", 12, 0, -1, 0);
        Due.answers(x, -13, "act", 5, 0, 0, 0);
        Due.answers(x, -14, "act", 8, 0, 0, 0);
        Due.answers(x, -15, "act", 8, 0, 1, 0);
        Due.answers(x, -16, "act", 17, 0, 0, 0);
    }

    private static void actBad() {
        Due.sentence("Promise 8: BAD.");
        RidingYard x = new RidingYard();
        for (int n : FAR) {
            Due.answers(x, Due.BAD, "act", n, 0, 0, 0);
            Due.answers(x, Due.BAD, "act", n, n, n, n);
        }
        Due.answers(x, Due.BAD, "act", 18, 0, 0, 0);
        Due.answers(x, Due.BAD, "act", -1, 0, 0, 0);
        Due.answers(x, Due.NONE, "act", 17, 0, 0, 0);
        Due.answers(x, Due.NONE, "act", 0, 0, 0, 0);
        // There is no wrong a, b or c.
        for (int act = 0; act < 18; act++) {
            for (int n : FAR) {
                int answer = x.act(act, n, n, n);
                Due.due(Calls.text("act", act, n, n, n) + " is BAD", answer == Due.BAD ? 1 : 0, 0);
            }
        }
    }

    private static void cameLatest() {
        Due.sentence("Promise 9: What the latest ACT that met no FAULT came to");
        RidingYard x = new RidingYard();
        x.horse(0, 0, Due.MIN);
        Due.comes(x, 2, 12, 0, 2, 0);
        Due.comes(x, Due.MIN, 1, 0, 0, 0);
        Due.fails(x, Due.NONE, 1, 1, 0, 0);
        Due.fails(x, Due.SIZE, 12, 0, -1, 0);
        Due.fails(x, Due.PLACE, 13, 0, 2, 7);
        Due.answers(x, Due.BAD, "act", 18, 0, 0, 0);
        Due.answers(x, Due.MIN, "came");
        Due.answers(x, Due.MIN, "came");
        // A team that works and meets none half way has come to nothing.
        x.act(7, 0, 0, 2);
        x.act(8, 0, 0, 0);
        Due.comes(x, 2, 10, 0, 0, 0);
        Due.fails(x, Due.NONE, 11, 0, 9, 0);
        Due.comes(x, 0, 2, 0, 5, 0);
    }

    private static void cameByTask() {
        Due.sentence("Promise 9: (by act() or a TASK)");
        RidingYard x = new RidingYard();
        x.task(12, 0, 3, 0);
        x.task(13, 0, 0, 8);
        x.task(13, 0, 3, 9);
        Due.comes(x, 5, 12, 1, 5, 0);
        Due.answers(x, 5, "came");
        x.day();
        Due.answers(x, 8, "came");
        Due.comes(x, 5, 12, 1, 5, 0);
        x.clear();
        x.task(14, 3, 0, 0);
        x.day();
        Due.answers(x, 5, "came");
    }

    private static void cameRaised() {
        Due.sentence("Promise 9: of one that is RAISED its number");
        RidingYard x = new RidingYard();
        x.hang(0, Due.MAX);
        x.hang(1, 0);
        Due.fails(x, Due.RAISED, 17, 0, 0, 0);
        Due.answers(x, Due.MAX, "came");
        Due.fails(x, Due.NONE, 17, 2, 0, 0);
        Due.answers(x, Due.MAX, "came");
        Due.fails(x, Due.RAISED, 17, 1, 0, 0);
        Due.answers(x, 0, "came");
        Due.comes(x, 4, 12, 0, 4, 0);
        x.task(17, 0, 0, 0);
        x.task(12, 0, 5, 0);
        x.day();
        Due.answers(x, Due.MAX, "came");
        Due.comes(x, 4, 12, 0, 4, 0);
    }

    private static void cameAtFirst() {
        Due.sentence("Promise 9: 0 at first.");
        RidingYard x = new RidingYard();
        Due.answers(x, 0, "came");
        x.horse(0, 0, 7);
        x.wagon(0, 7);
        x.hang(0, 7);
        x.task(12, 0, 7, 0);
        x.act(1, 1, 0, 0);
        Due.answers(x, 0, "came");
    }

    private static void horseTells() {
        Due.sentence("Promise 14: Of the HORSE in a STALL: 0 KIND, 1 STRENGTH, 2 FED, 3 RUG, 4 GROOMED, 5 TIRED.");
        RidingYard x = new RidingYard();
        for (int stall : new int[] {0, 9}) {
            x.horse(stall, 2, -3);
            x.act(3, stall, 0, 0);
            x.act(0, stall, Due.MAX, 0);
            x.act(2, stall, Due.MIN, 0);
            x.lead(stall, 0);
            x.act(4, 0, 7, 0);
            Due.tells(x, stall, 2, -3, Due.MAX, Due.MIN, 2, 15);
        }
    }

    private static void horseTellsBad() {
        Due.sentence("Promise 14: BAD");
        RidingYard x = new RidingYard();
        x.horse(0, 2, 5);
        x.horse(9, 2, 5);
        for (int n : FAR) {
            Due.answers(x, Due.BAD, "horseTells", n, 0);
            Due.answers(x, Due.BAD, "horseTells", 0, n);
            Due.answers(x, Due.BAD, "horseTells", n, n);
        }
        Due.answers(x, Due.BAD, "horseTells", 10, 0);
        Due.answers(x, Due.BAD, "horseTells", 9, 6);
        Due.answers(x, 0, "horseTells", 9, 5);
        Due.answers(x, 2, "horseTells", 0, 0);
    }

    private static void horseTellsNone() {
        Due.sentence("Promise 14: BAD: also none.");
        RidingYard x = new RidingYard();
        for (int what = -1; what <= 6; what++) {
            Due.answers(x, Due.BAD, "horseTells", 0, what);
        }
        x.horse(9, 0, 1);
        x.empty(0, 9);
        for (int what = 0; what <= 5; what++) {
            Due.answers(x, Due.BAD, "horseTells", 9, what);
        }
        x.horse(9, 0, 1);
        x.act(7, 0, 0, 1);
        x.act(9, 0, 0, 9);
        Due.answers(x, Due.BAD, "horseTells", 9, 1);
    }

    private static void shedHolds() {
        Due.sentence("Promise 15: What a SHED holds: 0 none, 1 a HORSE, 2 a WAGON.");
        RidingYard x = new RidingYard();
        for (int k : new int[] {0, 5}) {
            Due.answers(x, 0, "shed", k);
            for (int kind = 0; kind <= 2; kind++) {
                x.horse(3, kind, 0);
                x.lead(3, k);
                Due.answers(x, 1, "shed", k);
            }
            x.empty(0, 3);
            Due.answers(x, 1, "shed", k);
            x.wagon(k, 0);
            Due.answers(x, 2, "shed", k);
            x.lead(3, k);
            Due.answers(x, 0, "shed", k);
        }
    }

    private static void shedBad() {
        Due.sentence("Promise 15: BAD.");
        RidingYard x = new RidingYard();
        for (int n : FAR) {
            Due.answers(x, Due.BAD, "shed", n);
        }
        Due.answers(x, Due.BAD, "shed", 6);
        Due.answers(x, 0, "shed", 5);
    }

    private static void sameHorse() {
        Due.sentence("Promise 16: Whether two STALLS hold the same HORSE: 1, 0.");
        RidingYard x = new RidingYard();
        x.horse(0, 1, 5);
        x.horse(9, 1, 5);
        // Alike in all that they tell, they are still two.
        Due.answers(x, 0, "same", 0, 9);
        Due.answers(x, 1, "same", 0, 0);
        Due.answers(x, 1, "same", 9, 9);
        x.act(7, 0, 0, 1);
        x.act(8, 0, 0, 9);
        x.act(9, 0, 0, 0);
        Due.answers(x, 1, "same", 0, 9);
        Due.answers(x, 1, "same", 9, 0);
        x.horse(0, 1, 5);
        Due.answers(x, 0, "same", 9, 0);
    }

    private static void sameNoneBoth() {
        Due.sentence("Promise 16: (or none both)");
        RidingYard x = new RidingYard();
        Due.answers(x, 1, "same", 0, 9);
        Due.answers(x, 1, "same", 9, 9);
        x.horse(9, 0, 0);
        Due.answers(x, 0, "same", 0, 9);
        Due.answers(x, 0, "same", 9, 0);
        x.empty(0, 9);
        Due.answers(x, 1, "same", 9, 0);
    }

    private static void sameBad() {
        Due.sentence("Promise 16: BAD.");
        RidingYard x = new RidingYard();
        for (int n : FAR) {
            Due.answers(x, Due.BAD, "same", n, 0);
            Due.answers(x, Due.BAD, "same", 0, n);
            Due.answers(x, Due.BAD, "same", n, n);
        }
        Due.answers(x, Due.BAD, "same", 10, 10);
        Due.answers(x, Due.BAD, "same", 9, 10);
        Due.answers(x, Due.BAD, "same", 10, 9);
    }
}
