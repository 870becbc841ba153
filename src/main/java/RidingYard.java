import java.util.Arrays;

/** The riding yard of ../shared/DOC.md, which says by number what each method here promises. */
public final class RidingYard {
    public static final int BAD = -1000000001, OUTSIDE = -1000000002, FULL = -1000000003;

    private static final int STALLS = 10, SHEDS = 6, TEAMS = 6, LEDGERS = 4, TABLES = 4, HOOKS = 6;
    private static final int[] PLACES_OF_SORT = {STALLS, SHEDS, TEAMS, LEDGERS, TABLES, HOOKS};
    private static final int PONY = 0, COB = 1, HUNTER = 2, KINDS = 3;
    private static final int ACTS = 18;
    private static final int NO_FAULT = 0, NONE = 1, SIZE = 2, CAST = 3, STORE = 4, PLACE = 5, RAISED = 6;
    private static final int FAULTS = 6;
    private static final int COUNTS_AHEAD_OF_FAULTS = 5;
    private static final int MOST_MADE = 60, MOST_TASKS = 20, MOST_PUT_DOWN = 40;
    private static final int MOST_PLACES = 8, MOST_INTS = 12, MOST_ROWS = 6, MOST_ROW_INTS = 6;
    private static final int NUMBERS_OF_TASK = 4;

    private final Horse[] stalls = new Horse[STALLS];
    private final Worker[] sheds = new Worker[SHEDS];
    private final Team[] teams = new Team[TEAMS];
    private final Ledger[] ledgers = new Ledger[LEDGERS];
    private final Table[] tables = new Table[TABLES];
    private final Alarm[] hooks = new Alarm[HOOKS];
    private int horsesMade;
    private int wagonsMade;
    private int alarmsMade;

    private final int[][] tasks = new int[MOST_TASKS][NUMBERS_OF_TASK];
    private int taskCount;
    private final int[] tasksPutDown = new int[MOST_PUT_DOWN];
    private final int[] faultsPutDown = new int[MOST_PUT_DOWN];
    private int putDownKept;
    private int putDownInAll;
    // One longer than there are faults, so that a fault is its own index; that of NO_FAULT is never told.
    private final int[] faultsMet = new int[FAULTS + 1];
    private int cameTo;

    public RidingYard() {
        for (int i = 0; i < TEAMS; i++) {
            teams[i] = new Team();
        }
        for (int i = 0; i < LEDGERS; i++) {
            ledgers[i] = new Ledger();
        }
        for (int i = 0; i < TABLES; i++) {
            tables[i] = new Table();
        }
    }

    public int horse(int stall, int kind, int strength) {
        if (!within(stall, STALLS) || !within(kind, KINDS)) {
            return BAD;
        }
        if (horsesMade >= MOST_MADE) {
            return FULL;
        }
        stalls[stall] = newHorse(kind, strength);
        horsesMade++;
        return horsesMade - 1;
    }

    public int wagon(int shed, int load) {
        if (!within(shed, SHEDS)) {
            return BAD;
        }
        if (wagonsMade >= MOST_MADE) {
            return FULL;
        }
        sheds[shed] = new Wagon(load);
        wagonsMade++;
        return wagonsMade - 1;
    }

    public int lead(int stall, int shed) {
        if (!within(stall, STALLS) || !within(shed, SHEDS)) {
            return BAD;
        }
        sheds[shed] = stalls[stall];
        return oneIf(stalls[stall] != null);
    }

    public int empty(int sort, int k) {
        if (!within(sort, PLACES_OF_SORT.length) || !within(k, PLACES_OF_SORT[sort])) {
            return BAD;
        }
        boolean held = holdsSomething(sort, k);
        takeAway(sort, k);
        return oneIf(held);
    }

    public int tear(int table, int i) {
        if (!within(table, TABLES)) {
            return BAD;
        }
        Table torn = tables[table];
        if (!torn.there || !within(i, torn.height)) {
            return BAD;
        }
        boolean was = torn.rowThere[i];
        torn.rowThere[i] = false;
        return oneIf(was);
    }

    public int hang(int hook, int number) {
        if (!within(hook, HOOKS)) {
            return BAD;
        }
        if (alarmsMade >= MOST_MADE) {
            return FULL;
        }
        hooks[hook] = new Alarm(number);
        alarmsMade++;
        return 1;
    }

    public int act(int act, int a, int b, int c) {
        if (!within(act, ACTS)) {
            return BAD;
        }
        int fault = perform(act, a, b, c);
        return fault == NO_FAULT ? 1 : -10 - fault;
    }

    public int came() {
        return cameTo;
    }

    public int task(int act, int a, int b, int c) {
        if (!within(act, ACTS)) {
            return BAD;
        }
        if (taskCount >= MOST_TASKS) {
            return FULL;
        }
        int[] row = tasks[taskCount];
        row[0] = act;
        row[1] = a;
        row[2] = b;
        row[3] = c;
        taskCount++;
        return taskCount;
    }

    public int clear() {
        int had = taskCount;
        taskCount = 0;
        return had;
    }

    public int day() {
        int faulty = 0;
        for (int i = 0; i < taskCount; i++) {
            int[] row = tasks[i];
            int fault = perform(row[0], row[1], row[2], row[3]);
            if (fault != NO_FAULT) {
                faulty++;
                putDown(i, fault);
            }
            if (fault == RAISED) {
                return -10 - faulty;
            }
        }
        return taskCount - faulty;
    }

    public int book(int i, int what) {
        if (!within(i, putDownKept)) {
            return BAD;
        }
        switch (what) {
            case 0: return tasksPutDown[i];
            case 1: return faultsPutDown[i];
            default: return BAD;
        }
    }

    public int horseTells(int stall, int what) {
        if (!within(stall, STALLS)) {
            return BAD;
        }
        Horse asked = stalls[stall];
        if (asked == null) {
            return BAD;
        }
        switch (what) {
            case 0: return asked.kindNumber();
            case 1: return asked.strength;
            case 2: return asked.fed;
            case 3: return asked.rug;
            case 4: return asked.groomed;
            case 5: return asked.tired;
            default: return BAD;
        }
    }

    public int shed(int k) {
        if (!within(k, SHEDS)) {
            return BAD;
        }
        Worker held = sheds[k];
        if (held == null) {
            return 0;
        }
        return held instanceof Horse ? 1 : 2;
    }

    public int same(int stall, int other) {
        if (!within(stall, STALLS) || !within(other, STALLS)) {
            return BAD;
        }
        return oneIf(stalls[stall] == stalls[other]);
    }

    public int count(int what) {
        switch (what) {
            case 0: return horsesMade;
            case 1: return wagonsMade;
            case 2: return alarmsMade;
            case 3: return taskCount;
            case 4: return putDownInAll;
            default: break;
        }
        if (what <= COUNTS_AHEAD_OF_FAULTS || what > COUNTS_AHEAD_OF_FAULTS + FAULTS) {
            return OUTSIDE;
        }
        return faultsMet[what - COUNTS_AHEAD_OF_FAULTS];
    }

    private static boolean within(int i, int size) {
        return i >= 0 && i < size;
    }

    private static int oneIf(boolean holds) {
        return holds ? 1 : 0;
    }

    private static Horse newHorse(int kind, int strength) {
        switch (kind) {
            case COB: return new Cob(strength);
            case HUNTER: return new Hunter(strength);
            default: return new Horse(strength);
        }
    }

    private boolean holdsSomething(int sort, int k) {
        switch (sort) {
            case 0: return stalls[k] != null;
            case 1: return sheds[k] != null;
            case 2: return teams[k].there;
            case 3: return ledgers[k].there;
            case 4: return tables[k].there;
            default: return hooks[k] != null;
        }
    }

    private void takeAway(int sort, int k) {
        switch (sort) {
            case 0: stalls[k] = null; break;
            case 1: sheds[k] = null; break;
            case 2: teams[k].there = false; break;
            case 3: ledgers[k].there = false; break;
            case 4: tables[k].there = false; break;
            default: hooks[k] = null; break;
        }
    }

    private void putDown(int taskNumber, int fault) {
        // An index of its own: the count of all wraps in the end, and would then be no place in the rows.
        if (putDownKept < MOST_PUT_DOWN) {
            tasksPutDown[putDownKept] = taskNumber;
            faultsPutDown[putDownKept] = fault;
            putDownKept++;
        }
        putDownInAll++;
    }

    private int perform(int act, int a, int b, int c) {
        int fault = faultOf(act, a, b, c);
        faultsMet[fault]++;
        return fault;
    }

    private int faultOf(int act, int a, int b, int c) {
        switch (act) {
            case 0: return feedHorse(a, b);
            case 1: return askStrength(a);
            case 2: return coverHorse(a, b);
            case 3: return groomHorse(a);
            case 4: return workInShed(a, b);
            case 5: return askStrengthInShed(a);
            case 6: return askRugOfHunter(a);
            case 7: return formTeam(a, b, c);
            case 8: return putInTeam(a, b, c);
            case 9: return takeFromTeam(a, b, c);
            case 10: return askPlaces(a);
            case 11: return workTeam(a, b);
            case 12: return openLedger(a, b);
            case 13: return addInLedger(a, b, c);
            case 14: return sumLedger(a);
            case 15: return setTable(a, b, c);
            case 16: return markTable(a, b, c);
            default: return raiseAlarm(a);
        }
    }

    private int comeTo(int value) {
        cameTo = value;
        return NO_FAULT;
    }

    private Horse horseAt(int a) {
        return stalls[Math.floorMod(a, STALLS)];
    }

    private Worker workerAt(int a) {
        return sheds[Math.floorMod(a, SHEDS)];
    }

    private Team teamAt(int a) {
        return teams[Math.floorMod(a, TEAMS)];
    }

    private Ledger ledgerAt(int a) {
        return ledgers[Math.floorMod(a, LEDGERS)];
    }

    private Table tableAt(int a) {
        return tables[Math.floorMod(a, TABLES)];
    }

    private int feedHorse(int a, int more) {
        Horse fed = horseAt(a);
        if (fed == null) {
            return NONE;
        }
        fed.fed += more;
        return comeTo(fed.fed);
    }

    private int askStrength(int a) {
        Horse asked = horseAt(a);
        return asked == null ? NONE : comeTo(asked.strength);
    }

    private int coverHorse(int a, int rug) {
        Horse covered = horseAt(a);
        if (covered == null) {
            return NONE;
        }
        covered.rug = rug;
        return comeTo(0);
    }

    private int groomHorse(int a) {
        Horse groomed = horseAt(a);
        return groomed == null ? NONE : comeTo(groomed.groom());
    }

    private int workInShed(int a, int hours) {
        Worker worker = workerAt(a);
        return worker == null ? NONE : comeTo(worker.workFor(hours));
    }

    private int askStrengthInShed(int a) {
        Worker worker = workerAt(a);
        if (worker == null) {
            return NONE;
        }
        return worker instanceof Horse asked ? comeTo(asked.strength) : CAST;
    }

    private int askRugOfHunter(int a) {
        Horse asked = horseAt(a);
        if (asked == null) {
            return NONE;
        }
        return asked instanceof Hunter ? comeTo(asked.rug) : CAST;
    }

    private int formTeam(int a, int kind, int places) {
        if (places < 0) {
            return SIZE;
        }
        int size = Math.min(places, MOST_PLACES);
        teamAt(a).form(Math.floorMod(kind, KINDS), size);
        return comeTo(size);
    }

    private int putInTeam(int a, int place, int c) {
        Team team = teamAt(a);
        if (!team.there) {
            return NONE;
        }
        if (!within(place, team.size)) {
            return PLACE;
        }
        Horse put = horseAt(c);
        if (!team.isFor(put)) {
            return STORE;
        }
        team.places[place] = put;
        return comeTo(1);
    }

    private int takeFromTeam(int a, int place, int c) {
        Team team = teamAt(a);
        if (!team.there) {
            return NONE;
        }
        if (!within(place, team.size)) {
            return PLACE;
        }
        Horse taken = team.places[place];
        stalls[Math.floorMod(c, STALLS)] = taken;
        return comeTo(oneIf(taken != null));
    }

    private int askPlaces(int a) {
        Team team = teamAt(a);
        return team.there ? comeTo(team.size) : NONE;
    }

    private int workTeam(int a, int hours) {
        Team team = teamAt(a);
        if (!team.there) {
            return NONE;
        }
        int told = 0;
        for (int i = 0; i < team.size; i++) {
            Horse worker = team.places[i];
            if (worker == null) {
                return NONE;
            }
            told = worker.workFor(hours);
        }
        return comeTo(told);
    }

    private int openLedger(int a, int ints) {
        if (ints < 0) {
            return SIZE;
        }
        int size = Math.min(ints, MOST_INTS);
        ledgerAt(a).open(size);
        return comeTo(size);
    }

    private int addInLedger(int a, int i, int more) {
        Ledger ledger = ledgerAt(a);
        if (!ledger.there) {
            return NONE;
        }
        if (!within(i, ledger.size)) {
            return PLACE;
        }
        ledger.ints[i] += more;
        return comeTo(ledger.ints[i]);
    }

    private int sumLedger(int a) {
        Ledger ledger = ledgerAt(a);
        return ledger.there ? comeTo(ledger.sum()) : NONE;
    }

    private int setTable(int a, int rows, int ints) {
        if (rows < 0 || ints < 0) {
            return SIZE;
        }
        tableAt(a).set(Math.min(rows, MOST_ROWS), Math.min(ints, MOST_ROW_INTS));
        return comeTo(1);
    }

    private int markTable(int a, int row, int i) {
        Table table = tableAt(a);
        if (!table.there) {
            return NONE;
        }
        if (!within(row, table.height)) {
            return PLACE;
        }
        if (!table.rowThere[row]) {
            return NONE;
        }
        if (!within(i, table.width)) {
            return PLACE;
        }
        table.rows[row][i]++;
        return comeTo(table.rows[row][i]);
    }

    private int raiseAlarm(int a) {
        Alarm alarm = hooks[Math.floorMod(a, HOOKS)];
        if (alarm == null) {
            return NONE;
        }
        cameTo = alarm.number;
        return RAISED;
    }

    private abstract static class Worker {
        abstract int workFor(int hours);
    }

    /** Itself a pony: the other kinds tell only where they differ from it. */
    private static class Horse extends Worker {
        final int strength;
        int fed;
        int rug;
        int groomed;
        int tired;

        Horse(int strength) {
            this.strength = strength;
        }

        int kindNumber() {
            return PONY;
        }

        int groom() {
            groomed++;
            return groomed;
        }

        @Override
        int workFor(int hours) {
            tired += hours;
            return tired;
        }
    }

    private static class Cob extends Horse {
        Cob(int strength) {
            super(strength);
        }

        @Override
        int kindNumber() {
            return COB;
        }

        @Override
        int groom() {
            groomed += 2;
            return groomed;
        }

        @Override
        int workFor(int hours) {
            tired += 2 * hours;
            return tired;
        }
    }

    private static final class Hunter extends Cob {
        Hunter(int strength) {
            super(strength);
        }

        @Override
        int kindNumber() {
            return HUNTER;
        }

        @Override
        int groom() {
            rug = 0;
            return super.groom();
        }

        @Override
        int workFor(int hours) {
            tired = super.workFor(hours) + 1;
            return tired;
        }
    }

    private static final class Wagon extends Worker {
        final int load;
        int worn;

        Wagon(int load) {
            this.load = load;
        }

        @Override
        int workFor(int hours) {
            worn += hours * load;
            return worn;
        }
    }

    private static final class Alarm {
        final int number;

        Alarm(int number) {
            this.number = number;
        }
    }

    // No two places ever hold the same team, ledger or table. So each place keeps one for good and makes it
    // new in place, and a long run of days makes no further objects.

    private static final class Team {
        final Horse[] places = new Horse[MOST_PLACES];
        boolean there;
        int kind;
        int size;

        void form(int forKind, int placeCount) {
            there = true;
            kind = forKind;
            size = placeCount;
            for (int i = 0; i < MOST_PLACES; i++) {
                places[i] = null;
            }
        }

        boolean isFor(Horse horse) {
            return horse == null || horse.kindNumber() >= kind;
        }
    }

    private static final class Ledger {
        final int[] ints = new int[MOST_INTS];
        boolean there;
        int size;

        void open(int intCount) {
            there = true;
            size = intCount;
            Arrays.fill(ints, 0);
        }

        int sum() {
            int sum = 0;
            for (int i = 0; i < size; i++) {
                sum += ints[i];
            }
            return sum;
        }
    }

    private static final class Table {
        final int[][] rows = new int[MOST_ROWS][MOST_ROW_INTS];
        final boolean[] rowThere = new boolean[MOST_ROWS];
        boolean there;
        int height;
        int width;

        void set(int rowCount, int intCount) {
            there = true;
            height = rowCount;
            width = intCount;
            for (int i = 0; i < MOST_ROWS; i++) {
                rowThere[i] = true;
                Arrays.fill(rows[i], 0);
            }
        }
    }
}
