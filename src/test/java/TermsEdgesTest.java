/** Section 1 of the Terms: a test of its own for each sentence that names a boundary case. */
public final class TermsEdgesTest {
    private static final int[] PLACES_OF_SORT = {10, 6, 6, 4, 4, 6};

    public static void main(String[] args) {
        stallsZeroToNine();
        shedsZeroToFive();
        teamsZeroToFive();
        ledgersZeroToThree();
        tablesZeroToThree();
        hooksZeroToFive();
        atFirstNone();
        oneInSeveralPlaces();
        kindsZeroToTwo();
        hunterIsCobToo();
        intsOfHorseWrap();
        intsOfHorseAtFirst();
        wagonLikewise();
        groomOfPony();
        groomOfCob();
        groomOfHunter();
        workOfPony();
        workOfCob();
        workOfHunter();
        workOfWagon();
        teamForKind();
        teamHasZeroToEightPlaces();
        placesNoneAtFirst();
        ledgerHasZeroToTwelveInts();
        ledgerIntsZeroAtFirst();
        tableHasZeroToSixRows();
        rowsHaveZeroToSixInts();
        tableIntsZeroAtFirst();
        rowMayBeNoneLater();
        alarmHasAnInt();
        Due.end();
    }

    private static void stallsZeroToNine() {
        Due.sentence("Terms: STALLS 0 .. 9 hold a HORSE or none");
        RidingYard x = new RidingYard();
        for (int k = 0; k <= 9; k++) {
            Due.answers(x, k, "horse", k, 0, 50 + k);
        }
        for (int k = 0; k <= 9; k++) {
            Due.answers(x, 50 + k, "horseTells", k, 1);
        }
        Due.answers(x, 1, "lead", 9, 0);
        for (int none : new int[] {-1, 10}) {
            Due.answers(x, Due.BAD, "horse", none, 0, 1);
            Due.answers(x, Due.BAD, "lead", none, 0);
            Due.answers(x, Due.BAD, "empty", 0, none);
            Due.answers(x, Due.BAD, "horseTells", none, 1);
            Due.answers(x, Due.BAD, "same", none, 0);
            Due.answers(x, Due.BAD, "same", 0, none);
        }
        Due.answers(x, 1, "empty", 0, 9);
        Due.answers(x, Due.BAD, "horseTells", 9, 1);
        Due.answers(x, 50, "horseTells", 0, 1);
    }

    private static void shedsZeroToFive() {
        Due.sentence("Terms: SHEDS 0 .. 5 a WORKER (a HORSE, or a WAGON) or none");
        RidingYard x = new RidingYard();
        x.horse(0, 0, 1);
        for (int k = 0; k <= 5; k++) {
            Due.answers(x, 0, "shed", k);
            Due.answers(x, k, "wagon", k, 10 + k);
        }
        for (int k = 0; k <= 5; k++) {
            Due.answers(x, 2, "shed", k);
            Due.comes(x, 10 + k, 4, k, 1, 0);
        }
        for (int none : new int[] {-1, 6}) {
            Due.answers(x, Due.BAD, "wagon", none, 1);
            Due.answers(x, Due.BAD, "lead", 0, none);
            Due.answers(x, Due.BAD, "empty", 1, none);
            Due.answers(x, Due.BAD, "shed", none);
        }
        Due.answers(x, 1, "lead", 0, 5);
        Due.answers(x, 1, "shed", 5);
        Due.answers(x, 1, "empty", 1, 5);
        Due.answers(x, 0, "shed", 5);
    }

    private static void teamsZeroToFive() {
        Due.sentence("Terms: TEAMS 0 .. 5 a TEAM or none");
        RidingYard x = new RidingYard();
        for (int k = 0; k <= 5; k++) {
            Due.fails(x, Due.NONE, 10, k, 0, 0);
            Due.comes(x, k + 1, 7, k, 0, k + 1);
        }
        for (int k = 0; k <= 5; k++) {
            Due.comes(x, k + 1, 10, k, 0, 0);
        }
        Due.answers(x, Due.BAD, "empty", 2, -1);
        Due.answers(x, Due.BAD, "empty", 2, 6);
        for (int k = 0; k <= 5; k++) {
            Due.answers(x, 1, "empty", 2, k);
            Due.fails(x, Due.NONE, 10, k, 0, 0);
        }
    }

    private static void ledgersZeroToThree() {
        Due.sentence("Terms: LEDGERS 0 .. 3 a LEDGER, or none");
        RidingYard x = new RidingYard();
        for (int k = 0; k <= 3; k++) {
            Due.fails(x, Due.NONE, 14, k, 0, 0);
            Due.comes(x, 1, 12, k, 1, 0);
            Due.comes(x, 40 + k, 13, k, 0, 40 + k);
        }
        for (int k = 0; k <= 3; k++) {
            Due.comes(x, 40 + k, 14, k, 0, 0);
        }
        Due.answers(x, Due.BAD, "empty", 3, -1);
        Due.answers(x, Due.BAD, "empty", 3, 4);
        for (int k = 0; k <= 3; k++) {
            Due.answers(x, 1, "empty", 3, k);
            Due.fails(x, Due.NONE, 14, k, 0, 0);
        }
    }

    private static void tablesZeroToThree() {
        Due.sentence("Terms: TABLES 0 .. 3 a TABLE, or none");
        RidingYard x = new RidingYard();
        for (int k = 0; k <= 3; k++) {
            Due.answers(x, Due.BAD, "tear", k, 0);
            Due.comes(x, 1, 15, k, k + 1, 1);
        }
        for (int k = 0; k <= 3; k++) {
            Due.answers(x, 1, "tear", k, k);
            Due.answers(x, Due.BAD, "tear", k, k + 1);
        }
        for (int none : new int[] {-1, 4}) {
            Due.answers(x, Due.BAD, "tear", none, 0);
            Due.answers(x, Due.BAD, "empty", 4, none);
        }
        for (int k = 0; k <= 3; k++) {
            Due.answers(x, 1, "empty", 4, k);
            Due.answers(x, Due.BAD, "tear", k, 0);
        }
    }

    private static void hooksZeroToFive() {
        Due.sentence("Terms: HOOKS 0 .. 5 an ALARM, or none");
        RidingYard x = new RidingYard();
        for (int k = 0; k <= 5; k++) {
            Due.fails(x, Due.NONE, 17, k, 0, 0);
            Due.answers(x, 1, "hang", k, 60 + k);
        }
        for (int k = 0; k <= 5; k++) {
            Due.fails(x, Due.RAISED, 17, k, 0, 0);
            Due.answers(x, 60 + k, "came");
        }
        for (int none : new int[] {-1, 6}) {
            Due.answers(x, Due.BAD, "hang", none, 1);
            Due.answers(x, Due.BAD, "empty", 5, none);
        }
        for (int k = 0; k <= 5; k++) {
            Due.answers(x, 1, "empty", 5, k);
            Due.fails(x, Due.NONE, 17, k, 0, 0);
        }
    }

    private static void atFirstNone() {
        Due.sentence("Terms: (At first none)");
        RidingYard x = new RidingYard();
        for (int k = 0; k < 10; k++) {
            Due.fails(x, Due.NONE, 1, k, 0, 0);
        }
        for (int k = 0; k < 6; k++) {
            Due.answers(x, 0, "shed", k);
            Due.fails(x, Due.NONE, 10, k, 0, 0);
            Due.fails(x, Due.NONE, 17, k, 0, 0);
        }
        for (int k = 0; k < 4; k++) {
            Due.fails(x, Due.NONE, 14, k, 0, 0);
            Due.fails(x, Due.NONE, 16, k, 0, 0);
        }
        for (int sort = 0; sort < 6; sort++) {
            for (int k = 0; k < PLACES_OF_SORT[sort]; k++) {
                Due.answers(x, 0, "empty", sort, k);
            }
        }
    }

    private static void oneInSeveralPlaces() {
        Due.sentence("Terms: the same one may be held in several places");
        RidingYard x = new RidingYard();
        x.horse(0, 0, 7);
        x.lead(0, 0);
        x.lead(0, 5);
        x.act(7, 0, 0, 2);
        x.act(8, 0, 0, 0);
        x.act(8, 0, 1, 0);
        x.act(9, 0, 1, 9);
        Due.answers(x, 1, "same", 0, 9);
        Due.comes(x, 3, 4, 0, 3, 0);
        Due.comes(x, 6, 4, 5, 3, 0);
        Due.comes(x, 12, 11, 0, 3, 0);
        Due.tells(x, 0, 0, 7, 0, 0, 0, 12);
        Due.tells(x, 9, 0, 7, 0, 0, 0, 12);
        x.empty(0, 0);
        x.empty(1, 0);
        Due.tells(x, 9, 0, 7, 0, 0, 0, 12);
        Due.comes(x, 13, 4, 5, 1, 0);
        Due.comes(x, 15, 11, 0, 1, 0);
    }

    private static void kindsZeroToTwo() {
        Due.sentence("Terms: a KIND (0 PONY, 1 COB, 2 HUNTER)");
        RidingYard x = new RidingYard();
        for (int kind = 0; kind <= 2; kind++) {
            Due.answers(x, kind, "horse", kind, kind, 1);
            Due.answers(x, kind, "horseTells", kind, 0);
        }
        Due.answers(x, Due.BAD, "horse", 0, -1, 1);
        Due.answers(x, Due.BAD, "horse", 0, 3, 1);
    }

    private static void hunterIsCobToo() {
        Due.sentence("Terms: a HUNTER is a COB, too");
        RidingYard x = new RidingYard();
        x.horse(2, 2, 1);
        Due.comes(x, 1, 7, 0, 1, 1);
        Due.comes(x, 1, 8, 0, 0, 2);
        Due.comes(x, 1, 9, 0, 0, 5);
        Due.answers(x, 1, "same", 2, 5);
        Due.answers(x, 2, "horseTells", 5, 0);
    }

    /** GROOMED is not here: 512 calls, though each be a day of 20 tasks, don't bring it near its end. */
    private static void intsOfHorseWrap() {
        Due.sentence("Terms: ints that wrap");
        RidingYard x = new RidingYard();
        x.horse(0, 0, Due.MIN);
        x.horse(1, 0, Due.MAX);
        Due.answers(x, Due.MIN, "horseTells", 0, 1);
        Due.answers(x, Due.MAX, "horseTells", 1, 1);
        Due.comes(x, Due.MAX, 0, 0, Due.MAX, 0);
        Due.comes(x, Due.MIN, 0, 0, 1, 0);
        Due.comes(x, Due.MAX, 0, 0, -1, 0);
        Due.comes(x, -2, 0, 0, Due.MAX, 0);
        x.lead(0, 0);
        Due.comes(x, Due.MAX, 4, 0, Due.MAX, 0);
        Due.comes(x, Due.MIN, 4, 0, 1, 0);
        Due.comes(x, Due.MAX, 4, 0, -1, 0);
        Due.comes(x, 0, 2, 0, Due.MIN, 0);
        Due.answers(x, Due.MIN, "horseTells", 0, 3);
        Due.comes(x, 0, 2, 0, Due.MAX, 0);
        Due.tells(x, 0, 0, Due.MIN, -2, Due.MAX, 0, Due.MAX);
    }

    private static void intsOfHorseAtFirst() {
        Due.sentence("Terms: 0 at first, but STRENGTH");
        RidingYard x = new RidingYard();
        x.horse(0, 2, 1);
        x.lead(0, 0);
        x.act(0, 0, 5, 0);
        x.act(3, 0, 0, 0);
        x.act(2, 0, 6, 0);
        x.act(4, 0, 7, 0);
        for (int kind = 0; kind <= 2; kind++) {
            x.horse(0, kind, -9 + kind);
            Due.tells(x, 0, kind, -9 + kind, 0, 0, 0, 0);
        }
    }

    private static void wagonLikewise() {
        Due.sentence("Terms: A WAGON has a LOAD and WORN (likewise).");
        RidingYard x = new RidingYard();
        x.wagon(0, Due.MAX);
        Due.comes(x, 0, 4, 0, 0, 0);
        Due.comes(x, Due.MAX, 4, 0, 1, 0);
        Due.comes(x, -2, 4, 0, 1, 0);
        x.wagon(0, -1);
        Due.comes(x, -1, 4, 0, 1, 0);
        x.wagon(0, Due.MIN);
        Due.comes(x, 0, 4, 0, 0, 0);
        Due.comes(x, Due.MIN, 4, 0, 1, 0);
        Due.comes(x, 0, 4, 0, 1, 0);
    }

    private static void groomOfPony() {
        Due.sentence("Terms: TO GROOM a HORSE: GROOMED is 1 more");
        grooms(0, 1, 44);
    }

    private static void groomOfCob() {
        Due.sentence("Terms: of a COB 2 more");
        grooms(1, 2, 44);
    }

    private static void groomOfHunter() {
        Due.sentence("Terms: of a HUNTER 2 more, and RUG is 0: it tells GROOMED");
        grooms(2, 2, 0);
    }

    private static void grooms(int kind, int more, int rug) {
        RidingYard x = new RidingYard();
        x.horse(0, kind, 1);
        x.act(0, 0, 2, 0);
        for (int times = 1; times <= 3; times++) {
            x.act(2, 0, 44, 0);
            Due.comes(x, times * more, 3, 0, 99, 99);
            Due.tells(x, 0, kind, 1, 2, rug, times * more, 0);
        }
    }

    private static void workOfPony() {
        Due.sentence("Terms: TO WORK h hours: of a HORSE TIRED is h more");
        int[][] hoursAndTired = {{0, 0}, {5, 5}, {-7, -2}, {Due.MIN, Due.MAX - 1}, {Due.MAX, -3}, {3, 0}};
        works(0, hoursAndTired);
    }

    private static void workOfCob() {
        Due.sentence("Terms: (of a COB 2 h more");
        int[][] hoursAndTired = {{0, 0}, {5, 10}, {-7, -4}, {Due.MIN, -4}, {Due.MAX, -6}, {1 << 30, Due.MAX - 5}};
        works(1, hoursAndTired);
    }

    private static void workOfHunter() {
        Due.sentence("Terms: of a HUNTER what a COB's is, and 1 more): it tells TIRED");
        int[][] hoursAndTired = {{0, 1}, {5, 12}, {-7, -1}, {Due.MIN, 0}, {Due.MAX, -1}, {1 << 30, Due.MIN}};
        works(2, hoursAndTired);
    }

    private static void works(int kind, int[][] hoursAndTired) {
        RidingYard x = new RidingYard();
        x.horse(0, kind, 1);
        x.act(2, 0, 44, 0);
        x.lead(0, 0);
        for (int[] h : hoursAndTired) {
            Due.comes(x, h[1], 4, 0, h[0], 99);
            Due.tells(x, 0, kind, 1, 0, 44, 0, h[1]);
        }
    }

    private static void workOfWagon() {
        Due.sentence("Terms: of a WAGON WORN is h times LOAD more: it tells WORN");
        RidingYard x = new RidingYard();
        x.wagon(0, 0);
        Due.comes(x, 0, 4, 0, Due.MAX, 0);
        x.wagon(0, -3);
        Due.comes(x, -6, 4, 0, 2, 0);
        Due.comes(x, -3, 4, 0, -1, 0);
        Due.comes(x, -3, 4, 0, 0, 0);
        x.wagon(0, 1 << 16);
        Due.comes(x, 0, 4, 0, 1 << 16, 0);
        Due.comes(x, Due.MIN, 4, 0, 1 << 15, 0);
        x.wagon(0, Due.MAX);
        Due.comes(x, 1, 4, 0, Due.MAX, 0);
        x.wagon(0, Due.MIN);
        Due.comes(x, Due.MIN, 4, 0, -1, 0);
    }

    private static void teamForKind() {
        Due.sentence("Terms: A TEAM is FOR a KIND (0: any HORSE, 1: COBS, 2: HUNTERS)");
        RidingYard x = new RidingYard();
        for (int kind = 0; kind <= 2; kind++) {
            x.horse(kind, kind, 1);
        }
        for (int forKind = 0; forKind <= 2; forKind++) {
            x.act(7, forKind, forKind, 1);
            for (int kind = 0; kind <= 2; kind++) {
                Due.answers(x, kind >= forKind ? 1 : Due.STORE, "act", 8, forKind, 0, kind);
            }
        }
    }

    private static void teamHasZeroToEightPlaces() {
        Due.sentence("Terms: has 0 to 8 PLACES");
        RidingYard x = new RidingYard();
        for (int size = 0; size <= 8; size++) {
            x.act(7, 0, 0, size);
            if (size > 0) {
                Due.comes(x, 1, 8, 0, 0, 0);
                Due.comes(x, 1, 8, 0, size - 1, 0);
                Due.comes(x, 0, 9, 0, size - 1, 0);
            }
            Due.fails(x, Due.PLACE, 8, 0, size, 0);
            Due.fails(x, Due.PLACE, 9, 0, size, 0);
        }
    }

    private static void placesNoneAtFirst() {
        Due.sentence("Terms: each with a HORSE or none (at first)");
        RidingYard x = new RidingYard();
        x.horse(0, 2, 1);
        for (int times = 0; times < 2; times++) {
            Due.comes(x, 8, 7, 0, 2, 8);
            for (int place = 0; place < 8; place++) {
                Due.comes(x, 0, 9, 0, place, 9);
                Due.comes(x, 1, 8, 0, place, 0);
                Due.comes(x, 1, 9, 0, place, 9);
            }
        }
        // Places that a smaller team did without are none again in a greater one, too.
        x.act(7, 0, 0, 2);
        x.act(7, 0, 0, 8);
        Due.comes(x, 0, 9, 0, 7, 9);
    }

    private static void ledgerHasZeroToTwelveInts() {
        Due.sentence("Terms: A LEDGER has 0 to 12 ints");
        RidingYard x = new RidingYard();
        for (int size = 0; size <= 12; size++) {
            x.act(12, 0, size, 0);
            if (size > 0) {
                Due.comes(x, 1, 13, 0, 0, 1);
                Due.comes(x, size == 1 ? 2 : 1, 13, 0, size - 1, 1);
            }
            Due.fails(x, Due.PLACE, 13, 0, size, 1);
        }
    }

    private static void ledgerIntsZeroAtFirst() {
        Due.sentence("Terms: A LEDGER's ints (0 at first)");
        RidingYard x = new RidingYard();
        for (int times = 0; times < 2; times++) {
            Due.comes(x, 12, 12, 0, 12, 0);
            for (int i = 0; i < 12; i++) {
                Due.comes(x, 0, 13, 0, i, 0);
                Due.comes(x, 5, 13, 0, i, 5);
            }
        }
        x.act(12, 0, 2, 0);
        x.act(12, 0, 12, 0);
        Due.comes(x, 0, 14, 0, 0, 0);
    }

    private static void tableHasZeroToSixRows() {
        Due.sentence("Terms: A TABLE has 0 to 6 ROWS");
        RidingYard x = new RidingYard();
        for (int rows = 0; rows <= 6; rows++) {
            x.act(15, 0, rows, 1);
            if (rows > 0) {
                Due.comes(x, 1, 16, 0, rows - 1, 0);
                Due.answers(x, 1, "tear", 0, rows - 1);
            }
            Due.fails(x, Due.PLACE, 16, 0, rows, 0);
            Due.answers(x, Due.BAD, "tear", 0, rows);
        }
    }

    private static void rowsHaveZeroToSixInts() {
        Due.sentence("Terms: ROWS of 0 to 6 ints each");
        RidingYard x = new RidingYard();
        for (int ints = 0; ints <= 6; ints++) {
            x.act(15, 0, 2, ints);
            for (int row = 0; row < 2; row++) {
                if (ints > 0) {
                    Due.comes(x, 1, 16, 0, row, ints - 1);
                }
                Due.fails(x, Due.PLACE, 16, 0, row, ints);
            }
        }
    }

    private static void tableIntsZeroAtFirst() {
        Due.sentence("Terms: ints each (0 at first)");
        RidingYard x = new RidingYard();
        for (int times = 0; times < 2; times++) {
            Due.comes(x, 1, 15, 0, 6, 6);
            for (int cell = 0; cell < 36; cell++) {
                Due.comes(x, 1, 16, 0, cell / 6, cell % 6);
            }
        }
        x.act(15, 0, 1, 1);
        x.act(15, 0, 6, 6);
        Due.comes(x, 1, 16, 0, 5, 5);
        Due.comes(x, 1, 16, 0, 0, 0);
    }

    private static void rowMayBeNoneLater() {
        Due.sentence("Terms: a ROW may be none later");
        RidingYard x = new RidingYard();
        x.act(15, 0, 6, 6);
        x.act(15, 1, 6, 6);
        for (int row = 0; row < 6; row++) {
            Due.comes(x, 1, 16, 0, row, 5);
        }
        x.tear(0, 0);
        x.tear(0, 5);
        Due.fails(x, Due.NONE, 16, 0, 0, 5);
        Due.fails(x, Due.NONE, 16, 0, 5, 5);
        for (int row = 1; row < 5; row++) {
            Due.comes(x, 2, 16, 0, row, 5);
        }
        Due.comes(x, 1, 16, 1, 0, 5);
        x.act(15, 0, 6, 6);
        Due.comes(x, 1, 16, 0, 0, 5);
        Due.comes(x, 1, 16, 0, 5, 5);
    }

    private static void alarmHasAnInt() {
        Due.sentence("Terms: An ALARM has a number (an int).");
        RidingYard x = new RidingYard();
        for (int number : new int[] {Due.MIN, -1, 0, 1, Due.MAX}) {
            Due.answers(x, 1, "hang", 3, number);
            Due.fails(x, Due.RAISED, 17, 3, 0, 0);
            Due.answers(x, number, "came");
        }
    }
}
