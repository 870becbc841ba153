/** Section 2 of the Terms, the faults and the acts: a test of its own for each sentence that names a boundary case. */
public final class ActEdgesTest {
    private static final int[] NO_PLACES = {Due.MIN, -1, Due.MAX};

    public static void main(String[] args) {
        theFaultMetFirst();
        noneFault();
        sizeFault();
        castFault();
        storeFault();
        placeFault();
        raisedFault();
        doneAheadOfFaultStays();
        nothingElseIsDone();
        actsZeroToSeventeen();
        act0Fed();
        act1Strength();
        act2Rug();
        act3Groomed();
        act4Works();
        act5CastThenNone();
        act6CastThenNone();
        act7KindModulo();
        act7Places();
        act8PlaceGets();
        act9StallGets();
        act10HowManyPlaces();
        act11AllWork();
        act11WithoutPlaces();
        act12Ints();
        act13More();
        act14Sum();
        act15Rows();
        act16RowThenInt();
        act17NothingRaised();
        act17Raised();
        namesModulo();
        onlyNamesModulo();
        Due.end();
    }

    private static void theFaultMetFirst() {
        Due.sentence("Terms: FAULTS, of several the one that is met first");
        RidingYard x = new RidingYard();
        x.horse(0, 0, 1);
        Due.fails(x, Due.NONE, 8, 0, -1, 0);
        Due.fails(x, Due.NONE, 9, 0, -1, 0);
        Due.fails(x, Due.NONE, 13, 0, -1, 0);
        Due.fails(x, Due.NONE, 16, 0, -1, -1);
        x.act(7, 0, 2, 1);
        Due.fails(x, Due.PLACE, 8, 0, 1, 0);
        Due.fails(x, Due.STORE, 8, 0, 0, 0);
        x.act(15, 0, 2, 2);
        x.tear(0, 1);
        Due.fails(x, Due.NONE, 16, 0, 1, 2);
        Due.fails(x, Due.PLACE, 16, 0, 2, 2);
        Due.fails(x, Due.PLACE, 16, 0, 0, 2);
    }

    private static void noneFault() {
        Due.sentence("Terms: 1 NONE: what is to be asked, changed, counted, or raised is none.");
        RidingYard x = new RidingYard();
        for (int act : new int[] {0, 1, 2, 3, 4, 5, 6, 8, 9, 10, 11, 13, 14, 16, 17}) {
            Due.fails(x, Due.NONE, act, 0, 0, 0);
        }
        // These make what was none, and are not asked for it.
        for (int act : new int[] {7, 12, 15}) {
            Due.answers(x, 1, "act", act, 0, 0, 0);
        }
        Due.answers(x, 15, "count", 6);
    }

    private static void sizeFault() {
        Due.sentence("Terms: 2 SIZE: a size below 0.");
        RidingYard x = new RidingYard();
        for (int size : new int[] {-1, -2, Due.MIN}) {
            Due.fails(x, Due.SIZE, 7, 0, 0, size);
            Due.fails(x, Due.SIZE, 12, 0, size, 0);
            Due.fails(x, Due.SIZE, 15, 0, size, 1);
            Due.fails(x, Due.SIZE, 15, 0, 1, size);
        }
        Due.comes(x, 0, 7, 0, 0, 0);
        Due.comes(x, 0, 12, 0, 0, 0);
        Due.comes(x, 1, 15, 0, 0, 0);
        // What is no size may be below 0: the kind of a team, c of a ledger.
        Due.comes(x, 1, 7, 0, -1, 1);
        Due.comes(x, 1, 12, 0, 1, -1);
    }

    private static void castFault() {
        Due.sentence("Terms: 3 CAST: a WORKER that is no HORSE, a HORSE that is no HUNTER, where one must be.");
        RidingYard x = new RidingYard();
        x.wagon(5, 1);
        Due.fails(x, Due.CAST, 5, 5, 0, 0);
        Due.comes(x, 1, 4, 5, 1, 0);
        for (int kind = 0; kind <= 2; kind++) {
            x.horse(kind, kind, 30 + kind);
            x.lead(kind, kind);
            Due.comes(x, 30 + kind, 5, kind, 0, 0);
        }
        Due.fails(x, Due.CAST, 6, 0, 0, 0);
        Due.fails(x, Due.CAST, 6, 1, 0, 0);
        Due.comes(x, 0, 6, 2, 0, 0);
        for (int kind = 0; kind <= 2; kind++) {
            Due.comes(x, 0, 2, kind, 9, 0);
        }
    }

    private static void storeFault() {
        Due.sentence("Terms: 4 STORE: a HORSE that the TEAM is not FOR (none is for all).");
        RidingYard x = new RidingYard();
        x.horse(0, 0, 1);
        x.horse(1, 1, 1);
        x.horse(2, 2, 1);
        for (int kind = 0; kind <= 2; kind++) {
            x.act(7, kind, kind, 1);
        }
        Due.fails(x, Due.STORE, 8, 1, 0, 0);
        Due.fails(x, Due.STORE, 8, 2, 0, 0);
        Due.fails(x, Due.STORE, 8, 2, 0, 1);
        for (int kind = 0; kind <= 2; kind++) {
            Due.comes(x, 1, 8, kind, 0, 2);
            Due.comes(x, 1, 8, kind, 0, 9);
            Due.comes(x, 0, 9, kind, 0, 8);
        }
    }

    private static void placeFault() {
        Due.sentence("Terms: 5 PLACE: there is no such PLACE, ROW, int.");
        RidingYard x = new RidingYard();
        x.act(7, 0, 0, 3);
        x.act(12, 0, 3, 0);
        x.act(15, 0, 3, 2);
        for (int none : new int[] {Due.MIN, -1, 3, 4, Due.MAX}) {
            Due.fails(x, Due.PLACE, 8, 0, none, 0);
            Due.fails(x, Due.PLACE, 9, 0, none, 0);
            Due.fails(x, Due.PLACE, 13, 0, none, 1);
            Due.fails(x, Due.PLACE, 16, 0, none, 0);
            Due.fails(x, Due.PLACE, 16, 0, 0, none);
        }
        Due.fails(x, Due.PLACE, 16, 0, 2, 2);
        for (int i : new int[] {0, 2}) {
            Due.comes(x, 1, 8, 0, i, 0);
            Due.comes(x, 0, 9, 0, i, 0);
            Due.comes(x, 1, 13, 0, i, 1);
            Due.comes(x, 1, 16, 0, i, 1);
        }
    }

    private static void raisedFault() {
        Due.sentence("Terms: 6 RAISED: an ALARM.");
        RidingYard x = new RidingYard();
        for (int hook : new int[] {0, 5}) {
            x.hang(hook, 3 + hook);
            Due.fails(x, Due.RAISED, 17, hook, 0, 0);
            // It hangs there still, and can be raised again.
            Due.fails(x, Due.RAISED, 17, hook, 0, 0);
        }
        Due.answers(x, 4, "count", 11);
        Due.answers(x, 0, "count", 6);
    }

    private static void doneAheadOfFaultStays() {
        Due.sentence("Terms: What was done ahead of a FAULT stays.");
        RidingYard x = new RidingYard();
        for (int k = 0; k < 7; k++) {
            x.horse(k, 0, 1);
        }
        x.act(7, 0, 0, 8);
        for (int k = 0; k < 6; k++) {
            x.act(8, 0, k, k);
        }
        x.act(8, 0, 7, 6);
        Due.fails(x, Due.NONE, 11, 0, 4, 0);
        for (int k = 0; k < 6; k++) {
            Due.answers(x, 4, "horseTells", k, 5);
        }
        Due.answers(x, 0, "horseTells", 6, 5);
        x.act(8, 0, 0, 9);
        Due.fails(x, Due.NONE, 11, 0, 4, 0);
        Due.answers(x, 4, "horseTells", 1, 5);
    }

    /** The other side of the sentence above; Twins tells what stands in the yard. */
    private static void nothingElseIsDone() {
        Due.sentence("Terms: What was done ahead of a FAULT stays (and nothing else is done).");
        int[][] faulty = {
            {Due.NONE, 0, 9, 1, 0}, {Due.NONE, 2, 9, 1, 0}, {Due.NONE, 3, 9, 0, 0}, {Due.NONE, 4, 3, 1, 0},
            {Due.NONE, 5, 3, 0, 0}, {Due.NONE, 6, 9, 0, 0}, {Due.CAST, 5, 0, 0, 0}, {Due.CAST, 6, 0, 0, 0},
            {Due.CAST, 6, 1, 0, 0}, {Due.SIZE, 7, 0, 1, -1}, {Due.SIZE, 7, 3, 1, -1}, {Due.SIZE, 7, 1, 0, Due.MIN},
            {Due.NONE, 8, 3, 0, 0}, {Due.PLACE, 8, 0, 3, 0}, {Due.PLACE, 8, 0, -1, 0}, {Due.STORE, 8, 1, 7, 0},
            {Due.STORE, 8, 2, 0, 1}, {Due.NONE, 9, 3, 0, 0}, {Due.PLACE, 9, 0, 3, 0}, {Due.PLACE, 9, 4, 0, 0},
            {Due.NONE, 10, 3, 0, 0}, {Due.NONE, 11, 3, 1, 0}, {Due.NONE, 11, 1, 1, 0}, {Due.SIZE, 12, 0, -1, 0},
            {Due.SIZE, 12, 1, -1, 0}, {Due.NONE, 13, 1, 0, 1}, {Due.PLACE, 13, 0, 3, 1}, {Due.PLACE, 13, 2, 0, 1},
            {Due.NONE, 14, 1, 0, 0}, {Due.SIZE, 15, 0, -1, 1}, {Due.SIZE, 15, 3, 1, -1}, {Due.SIZE, 15, 1, 0, -1},
            {Due.NONE, 16, 1, 0, 0}, {Due.NONE, 16, 0, 1, 0}, {Due.PLACE, 16, 0, 2, 0}, {Due.PLACE, 16, 0, 0, 3},
            {Due.NONE, 17, 1, 0, 0}, {Due.RAISED, 17, 0, 0, 0}};
        for (int[] f : faulty) {
            Twins.leaves(f[0], f[1], f[2], f[3], f[4]);
        }
    }

    private static void actsZeroToSeventeen() {
        Due.sentence("Terms: ACTS, with a, b, c; what they come to (ACT 0 .. 17)");
        for (int act = 0; act <= 17; act++) {
            RidingYard x = new RidingYard();
            Due.answers(x, act == 7 || act == 12 || act == 15 ? 1 : Due.NONE, "act", act, 0, 0, 0);
            Due.answers(x, 1, "task", act, 0, 0, 0);
        }
        RidingYard x = new RidingYard();
        for (int none : new int[] {-1, 18}) {
            Due.answers(x, Due.BAD, "act", none, 0, 0, 0);
            Due.answers(x, Due.BAD, "task", none, 0, 0, 0);
        }
        // A number that an act has no use for may be any.
        x.horse(0, 2, 6);
        x.lead(0, 0);
        for (int any : new int[] {Due.MIN, -1, Due.MAX}) {
            Due.comes(x, 6, 1, 0, any, any);
            Due.comes(x, 6, 5, 0, any, any);
            Due.comes(x, 0, 6, 0, any, any);
            Due.comes(x, 5, 12, 0, 5, any);
            Due.comes(x, 0, 14, 0, any, any);
            Due.comes(x, 0, 7, 0, 0, 0);
            Due.comes(x, 0, 10, 0, any, any);
            Due.comes(x, 0, 11, 0, any, any);
        }
    }

    private static void act0Fed() {
        Due.sentence("Terms: 0 FED of STALL a's HORSE is b more: FED.");
        RidingYard x = new RidingYard();
        Due.fails(x, Due.NONE, 0, 9, 1, 0);
        x.horse(9, 0, 1);
        Due.comes(x, 0, 0, 9, 0, 0);
        Due.comes(x, Due.MIN, 0, 9, Due.MIN, 0);
        Due.comes(x, Due.MAX, 0, 9, -1, 0);
        Due.comes(x, -2, 0, 9, Due.MAX, 0);
        Due.tells(x, 9, 0, 1, -2, 0, 0, 0);
    }

    private static void act1Strength() {
        Due.sentence("Terms: 1 STRENGTH of it.");
        RidingYard x = new RidingYard();
        Due.fails(x, Due.NONE, 1, 9, 0, 0);
        for (int strength : new int[] {Due.MIN, -1, 0, Due.MAX}) {
            x.horse(9, 1, strength);
            Due.comes(x, strength, 1, 9, 5, 5);
        }
    }

    private static void act2Rug() {
        Due.sentence("Terms: 2 its RUG becomes b: 0.");
        RidingYard x = new RidingYard();
        Due.fails(x, Due.NONE, 2, 9, 1, 0);
        x.horse(9, 0, 1);
        for (int rug : new int[] {5, Due.MIN, -1, Due.MAX, 0}) {
            Due.comes(x, 1, 1, 9, 0, 0);
            Due.comes(x, 0, 2, 9, rug, 0);
            Due.tells(x, 9, 0, 1, 0, rug, 0, 0);
        }
    }

    private static void act3Groomed() {
        Due.sentence("Terms: 3 it is GROOMED: as told.");
        RidingYard x = new RidingYard();
        Due.fails(x, Due.NONE, 3, 9, 0, 0);
        int[] more = {1, 2, 2};
        for (int kind = 0; kind <= 2; kind++) {
            x.horse(9, kind, 1);
            Due.comes(x, more[kind], 3, 9, 7, 7);
            Due.tells(x, 9, kind, 1, 0, 0, more[kind], 0);
        }
    }

    private static void act4Works() {
        Due.sentence("Terms: 4 what SHED a holds WORKS b hours: as told.");
        RidingYard x = new RidingYard();
        Due.fails(x, Due.NONE, 4, 5, 1, 0);
        int[] tired = {0, 0, 1};
        for (int kind = 0; kind <= 2; kind++) {
            x.horse(0, kind, 1);
            x.lead(0, 5);
            Due.comes(x, tired[kind], 4, 5, 0, 0);
        }
        x.wagon(5, 9);
        Due.comes(x, 0, 4, 5, 0, 0);
        Due.comes(x, -9, 4, 5, -1, 0);
        x.lead(1, 5);
        Due.fails(x, Due.NONE, 4, 5, 1, 0);
    }

    private static void act5CastThenNone() {
        Due.sentence("Terms: 5 STRENGTH of what SHED a holds (CAST; then NONE).");
        RidingYard x = new RidingYard();
        Due.fails(x, Due.NONE, 5, 5, 0, 0);
        x.wagon(5, 1);
        Due.fails(x, Due.CAST, 5, 5, 0, 0);
        for (int kind = 0; kind <= 2; kind++) {
            x.horse(0, kind, -4 + kind);
            x.lead(0, 5);
            Due.comes(x, -4 + kind, 5, 5, 0, 0);
        }
        x.empty(1, 5);
        Due.fails(x, Due.NONE, 5, 5, 0, 0);
    }

    private static void act6CastThenNone() {
        Due.sentence("Terms: 6 RUG of STALL a's HORSE, if that is a HUNTER (CAST; then NONE).");
        RidingYard x = new RidingYard();
        Due.fails(x, Due.NONE, 6, 9, 0, 0);
        for (int kind = 0; kind <= 1; kind++) {
            x.horse(9, kind, 1);
            Due.fails(x, Due.CAST, 6, 9, 0, 0);
        }
        x.horse(9, 2, 1);
        Due.comes(x, 0, 6, 9, 0, 0);
        x.act(2, 9, Due.MIN, 0);
        Due.comes(x, Due.MIN, 6, 9, 0, 0);
        x.empty(0, 9);
        Due.fails(x, Due.NONE, 6, 9, 0, 0);
    }

    private static void act7KindModulo() {
        Due.sentence("Terms: 7 TEAM a becomes one FOR KIND b (modulo 3: 0 .. 2)");
        RidingYard x = new RidingYard();
        for (int kind = 0; kind <= 2; kind++) {
            x.horse(kind, kind, 1);
        }
        int[][] asked = {{3, 0}, {4, 1}, {5, 2}, {-1, 2}, {-2, 1}, {-3, 0}, {-4, 2}, {Due.MAX, 1}, {Due.MIN, 1}};
        for (int[] k : asked) {
            Due.comes(x, 1, 7, 0, k[0], 1);
            for (int kind = 0; kind <= 2; kind++) {
                Due.answers(x, kind >= k[1] ? 1 : Due.STORE, "act", 8, 0, 0, kind);
            }
        }
    }

    private static void act7Places() {
        Due.sentence("Terms: with c PLACES (SIZE; c above 8 is 8): c.");
        RidingYard x = new RidingYard();
        int[][] asked = {{0, 0}, {1, 1}, {7, 7}, {8, 8}, {9, 8}, {10, 8}, {Due.MAX, 8}};
        for (int[] size : asked) {
            Due.comes(x, size[1], 7, 5, 0, size[0]);
            Due.comes(x, size[1], 10, 5, 0, 0);
        }
        Due.fails(x, Due.PLACE, 8, 5, 8, 0);
        for (int size : new int[] {-1, Due.MIN}) {
            Due.fails(x, Due.SIZE, 7, 5, 0, size);
            Due.comes(x, 8, 10, 5, 0, 0);
        }
    }

    private static void act8PlaceGets() {
        Due.sentence("Terms: 8 PLACE b of TEAM a gets what STALL c holds (NONE: the TEAM; PLACE; STORE): 1.");
        RidingYard x = new RidingYard();
        x.horse(0, 0, 10);
        x.horse(9, 2, 19);
        Due.fails(x, Due.NONE, 8, 5, 0, 9);
        Due.fails(x, Due.NONE, 8, 5, 8, 0);
        x.act(7, 5, 2, 8);
        for (int none : NO_PLACES) {
            Due.fails(x, Due.PLACE, 8, 5, none, 0);
        }
        Due.fails(x, Due.PLACE, 8, 5, 8, 9);
        Due.fails(x, Due.STORE, 8, 5, 7, 0);
        Due.comes(x, 1, 8, 5, 7, 9);
        Due.comes(x, 1, 9, 5, 7, 4);
        Due.answers(x, 1, "same", 4, 9);
        // A stall without a horse: the place holds none then, and that is no fault.
        Due.comes(x, 1, 8, 5, 7, 8);
        Due.comes(x, 0, 9, 5, 7, 4);
    }

    private static void act9StallGets() {
        Due.sentence("Terms: 9 STALL c gets what PLACE b of TEAM a holds (NONE; PLACE): 1, or 0 if that is none.");
        RidingYard x = new RidingYard();
        x.horse(9, 1, 19);
        x.horse(0, 0, 10);
        Due.fails(x, Due.NONE, 9, 5, 0, 9);
        x.act(7, 5, 0, 8);
        x.act(8, 5, 0, 0);
        for (int none : NO_PLACES) {
            Due.fails(x, Due.PLACE, 9, 5, none, 9);
        }
        Due.fails(x, Due.PLACE, 9, 5, 8, 9);
        Due.tells(x, 9, 1, 19, 0, 0, 0, 0);
        Due.comes(x, 1, 9, 5, 0, 9);
        Due.answers(x, 1, "same", 0, 9);
        // The place holds it still.
        Due.comes(x, 1, 9, 5, 0, 8);
        Due.answers(x, 1, "same", 0, 8);
        Due.comes(x, 0, 9, 5, 7, 9);
        Due.answers(x, Due.BAD, "horseTells", 9, 0);
        Due.comes(x, 0, 9, 5, 7, 9);
    }

    private static void act10HowManyPlaces() {
        Due.sentence("Terms: 10 how many PLACES TEAM a has.");
        RidingYard x = new RidingYard();
        Due.fails(x, Due.NONE, 10, 5, 0, 0);
        for (int size = 0; size <= 8; size++) {
            x.act(7, 5, 2, size);
            x.act(12, 0, 11, 0);
            Due.comes(x, size, 10, 5, 3, 3);
        }
        x.empty(2, 5);
        Due.fails(x, Due.NONE, 10, 5, 0, 0);
    }

    private static void act11AllWork() {
        Due.sentence("Terms: 11 all in TEAM a WORK b hours, from PLACE 0 on (NONE: also one that is none): the last");
        RidingYard x = new RidingYard();
        Due.fails(x, Due.NONE, 11, 5, 1, 0);
        x.act(7, 5, 0, 8);
        Due.fails(x, Due.NONE, 11, 5, 1, 0);
        for (int k = 0; k < 7; k++) {
            x.horse(k, k % 3, 1);
            x.act(8, 5, k, k);
        }
        // Only the last place is none: all ahead of it have worked.
        Due.fails(x, Due.NONE, 11, 5, 2, 0);
        int[] once = {2, 4, 5};
        for (int k = 0; k < 7; k++) {
            Due.answers(x, once[k % 3], "horseTells", k, 5);
        }
        x.act(8, 5, 7, 2);
        Due.comes(x, 15, 11, 5, 2, 0);
        Due.answers(x, 8, "horseTells", 1, 5);
        Due.comes(x, 17, 11, 5, 0, 0);
        x.empty(2, 5);
        Due.fails(x, Due.NONE, 11, 5, 2, 0);
        Due.answers(x, 17, "horseTells", 2, 5);
    }

    private static void act11WithoutPlaces() {
        Due.sentence("Terms: the last that was told (0 without PLACES)");
        RidingYard x = new RidingYard();
        x.horse(0, 0, 6);
        Due.comes(x, 1, 7, 0, 0, 1);
        x.act(8, 0, 0, 0);
        Due.comes(x, 3, 11, 0, 3, 0);
        Due.comes(x, 0, 7, 0, 0, 0);
        Due.comes(x, 6, 1, 0, 0, 0);
        Due.comes(x, 0, 11, 0, 3, 0);
        Due.answers(x, 3, "horseTells", 0, 5);
    }

    private static void act12Ints() {
        Due.sentence("Terms: 12 LEDGER a becomes one with b ints (SIZE; above 12: 12): b.");
        RidingYard x = new RidingYard();
        int[][] asked = {{0, 0}, {1, 1}, {11, 11}, {12, 12}, {13, 12}, {Due.MAX, 12}};
        for (int[] size : asked) {
            Due.comes(x, size[1], 12, 3, size[0], 0);
            Due.fails(x, Due.PLACE, 13, 3, size[1], 1);
            Due.comes(x, 0, 14, 3, 0, 0);
        }
        x.act(13, 3, 11, 4);
        for (int size : new int[] {-1, Due.MIN}) {
            Due.fails(x, Due.SIZE, 12, 3, size, 0);
            Due.comes(x, 4, 14, 3, 0, 0);
        }
    }

    private static void act13More() {
        Due.sentence("Terms: 13 int b of LEDGER a is c more: what it is then.");
        RidingYard x = new RidingYard();
        Due.fails(x, Due.NONE, 13, 3, 0, 1);
        x.act(12, 3, 12, 0);
        for (int none : NO_PLACES) {
            Due.fails(x, Due.PLACE, 13, 3, none, 1);
        }
        Due.fails(x, Due.PLACE, 13, 3, 12, 1);
        for (int i : new int[] {0, 11}) {
            Due.comes(x, Due.MAX, 13, 3, i, Due.MAX);
            Due.comes(x, Due.MIN, 13, 3, i, 1);
            Due.comes(x, 0, 13, 3, i, Due.MIN);
            Due.comes(x, 0, 13, 3, i, 0);
            Due.comes(x, -1, 13, 3, i, -1);
        }
    }

    private static void act14Sum() {
        Due.sentence("Terms: 14 the sum of LEDGER a's ints.");
        RidingYard x = new RidingYard();
        Due.fails(x, Due.NONE, 14, 3, 0, 0);
        x.act(12, 3, 0, 0);
        x.hang(0, 8);
        x.act(17, 0, 0, 0);
        Due.comes(x, 0, 14, 3, 0, 0);
        x.act(12, 3, 12, 0);
        x.act(13, 3, 0, Due.MAX);
        x.act(13, 3, 11, 1);
        Due.comes(x, Due.MIN, 14, 3, 0, 0);
        x.act(13, 3, 5, Due.MIN);
        Due.comes(x, 0, 14, 3, 0, 0);
        x.act(13, 3, 1, -5);
        Due.comes(x, -5, 14, 3, 0, 0);
        x.empty(3, 3);
        Due.fails(x, Due.NONE, 14, 3, 0, 0);
    }

    private static void act15Rows() {
        Due.sentence("Terms: 15 TABLE a becomes one with b ROWS of c ints "
            + "(SIZE: also where b is 0 and c below 0; above 6: 6): 1.");
        RidingYard x = new RidingYard();
        int[][] noSizes = {{0, -1}, {0, Due.MIN}, {-1, 0}, {-1, -1}, {-1, 7}, {7, -1}, {Due.MIN, 1}, {1, Due.MIN}};
        for (int[] size : noSizes) {
            Due.fails(x, Due.SIZE, 15, 3, size[0], size[1]);
            Due.answers(x, Due.BAD, "tear", 3, 0);
        }
        int[][] asked = {{6, 6, 6, 6}, {7, 6, 6, 6}, {6, 7, 6, 6}, {Due.MAX, 2, 6, 2}, {2, Due.MAX, 2, 6},
            {1, 5, 1, 5}};
        for (int[] size : asked) {
            Due.comes(x, 1, 15, 3, size[0], size[1]);
            Due.comes(x, 1, 16, 3, size[2] - 1, size[3] - 1);
            Due.fails(x, Due.PLACE, 16, 3, size[2], 0);
            Due.fails(x, Due.PLACE, 16, 3, 0, size[3]);
        }
        Due.comes(x, 1, 15, 3, 2, 0);
        Due.fails(x, Due.PLACE, 16, 3, 1, 0);
        Due.comes(x, 1, 15, 3, 0, 2);
        Due.fails(x, Due.PLACE, 16, 3, 0, 0);
        Due.answers(x, 1, "empty", 4, 3);
    }

    private static void act16RowThenInt() {
        Due.sentence("Terms: 16 int c of ROW b of TABLE a is 1 more: what it is then (NONE: also the ROW; PLACE).");
        RidingYard x = new RidingYard();
        Due.fails(x, Due.NONE, 16, 3, 6, 6);
        x.act(15, 3, 6, 6);
        for (int none : NO_PLACES) {
            Due.fails(x, Due.PLACE, 16, 3, none, 0);
            Due.fails(x, Due.PLACE, 16, 3, 0, none);
        }
        Due.fails(x, Due.PLACE, 16, 3, 6, 0);
        Due.fails(x, Due.PLACE, 16, 3, 0, 6);
        for (int times = 1; times <= 3; times++) {
            Due.comes(x, times, 16, 3, 0, 0);
            Due.comes(x, times, 16, 3, 5, 5);
        }
        x.tear(3, 5);
        Due.fails(x, Due.NONE, 16, 3, 5, 5);
        for (int none : NO_PLACES) {
            Due.fails(x, Due.NONE, 16, 3, 5, none);
        }
        Due.fails(x, Due.PLACE, 16, 3, 6, 6);
        Due.comes(x, 4, 16, 3, 0, 0);
    }

    private static void act17NothingRaised() {
        Due.sentence("Terms: 17 the ALARM of HOOK a is raised (NONE if there is none: nothing is raised then");
        RidingYard x = new RidingYard();
        Due.comes(x, 4, 12, 0, 4, 0);
        Due.fails(x, Due.NONE, 17, 5, 0, 0);
        x.hang(5, 99);
        x.empty(5, 5);
        Due.fails(x, Due.NONE, 17, 5, 0, 0);
        Due.answers(x, 0, "count", 11);
        Due.answers(x, 4, "came");
    }

    private static void act17Raised() {
        Due.sentence("Terms: else RAISED): never anything.");
        RidingYard x = new RidingYard();
        x.hang(5, 99);
        x.hang(4, 0);
        Due.fails(x, Due.RAISED, 17, 5, 0, 0);
        Due.answers(x, 99, "came");
        Due.fails(x, Due.RAISED, 17, 4, 0, 0);
        Due.answers(x, 0, "came");
        Due.answers(x, 2, "count", 11);
        Due.answers(x, 0, "count", 6);
    }

    private static void namesModulo() {
        Due.sentence("Terms: that an ACT names: a, c modulo how many there are, 0 .. .");
        // For each number the place that it means among 10, among 6 and among 4.
        int[][] numbers = {{0, 0, 0, 0}, {-1, 9, 5, 3}, {10, 0, 4, 2}, {6, 6, 0, 2}, {4, 4, 4, 0}, {-4, 6, 2, 0},
            {-6, 4, 0, 2}, {-10, 0, 2, 2}, {-11, 9, 1, 1}, {Due.MAX, 7, 1, 3}, {Due.MIN, 2, 4, 0}};
        for (int[] n : numbers) {
            namedStall(n[0], n[1]);
            namedShed(n[0], n[2]);
            namedTeam(n[0], n[1], n[2]);
            namedLedgerAndTable(n[0], n[3]);
            namedHook(n[0], n[2]);
        }
    }

    private static void namedStall(int n, int stall) {
        RidingYard x = new RidingYard();
        x.horse(stall, 2, 33);
        Due.comes(x, 33, 1, n, 0, 0);
        Due.comes(x, 5, 0, n, 5, 0);
        Due.comes(x, 2, 3, n, 0, 0);
        Due.comes(x, 0, 2, n, 6, 0);
        Due.comes(x, 6, 6, n, 0, 0);
        Due.tells(x, stall, 2, 33, 5, 6, 2, 0);
    }

    private static void namedShed(int n, int shed) {
        RidingYard x = new RidingYard();
        x.horse(0, 0, 21);
        x.lead(0, shed);
        Due.comes(x, 21, 5, n, 0, 0);
        Due.comes(x, 3, 4, n, 3, 0);
    }

    private static void namedTeam(int n, int stall, int team) {
        RidingYard x = new RidingYard();
        x.horse(stall, 0, 14);
        Due.comes(x, 1, 7, n, 0, 1);
        Due.comes(x, 1, 10, n, 0, 0);
        Due.comes(x, 1, 8, n, 0, n);
        Due.comes(x, 2, 11, n, 2, 0);
        x.empty(0, stall);
        Due.comes(x, 1, 9, n, 0, n);
        Due.tells(x, stall, 0, 14, 0, 0, 0, 2);
        Due.answers(x, 1, "empty", 2, team);
    }

    private static void namedLedgerAndTable(int n, int place) {
        RidingYard x = new RidingYard();
        Due.comes(x, 1, 12, n, 1, 0);
        Due.comes(x, 8, 13, n, 0, 8);
        Due.comes(x, 8, 14, n, 0, 0);
        Due.comes(x, 1, 15, n, 1, 1);
        Due.comes(x, 1, 16, n, 0, 0);
        Due.answers(x, 1, "empty", 3, place);
        Due.answers(x, 1, "tear", place, 0);
    }

    private static void namedHook(int n, int hook) {
        RidingYard x = new RidingYard();
        x.hang(hook, 17);
        Due.fails(x, Due.RAISED, 17, n, 0, 0);
        Due.answers(x, 17, "came");
    }

    /** A place of a team, an int, a row is not among what is named modulo; nor are the numbers of the other calls. */
    private static void onlyNamesModulo() {
        Due.sentence("Terms: (STALLS, SHEDS, TEAMS, LEDGERS, TABLES, HOOKS that an ACT names)");
        RidingYard x = new RidingYard();
        x.act(7, 0, 0, 8);
        x.act(12, 0, 12, 0);
        x.act(15, 0, 6, 6);
        Due.fails(x, Due.PLACE, 8, 0, 8, 0);
        Due.fails(x, Due.PLACE, 9, 0, -8, 0);
        Due.fails(x, Due.PLACE, 13, 0, 12, 1);
        Due.fails(x, Due.PLACE, 16, 0, 6, 0);
        Due.fails(x, Due.PLACE, 16, 0, 0, -6);
        Due.answers(x, Due.BAD, "horse", 10, 0, 1);
        Due.answers(x, Due.BAD, "horse", 0, 3, 1);
        Due.answers(x, Due.BAD, "wagon", 6, 1);
        Due.answers(x, Due.BAD, "hang", -6, 1);
        Due.answers(x, Due.BAD, "tear", 4, 0);
        Due.answers(x, Due.BAD, "act", 18, 0, 0, 0);
    }
}
