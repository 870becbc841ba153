import java.util.ArrayList;
import java.util.List;

/**
 * The document told a second time, with the machine's own exceptions as faults and real arrays that may be null.
 * It is built otherwise than the class under test, so that a slip in one of them shows against the other; where the
 * document itself was misread, both would be wrong alike.
 */
final class ModelYard {
    static class Worker {
        int work(int hours) {
            throw new IllegalStateException();
        }
    }

    static class Horse extends Worker {
        int[] told = new int[6];

        int groom() {
            return told[4] += 1;
        }

        @Override
        int work(int hours) {
            return told[5] += hours;
        }
    }

    static class Cob extends Horse {
        @Override
        int groom() {
            return told[4] += 2;
        }

        @Override
        int work(int hours) {
            return told[5] += 2 * hours;
        }
    }

    static class Hunter extends Cob {
        @Override
        int groom() {
            told[3] = 0;
            return super.groom();
        }

        @Override
        int work(int hours) {
            super.work(hours);
            return told[5] += 1;
        }
    }

    static class Wagon extends Worker {
        int load;
        int worn;

        @Override
        int work(int hours) {
            return worn += hours * load;
        }
    }

    @SuppressWarnings("serial")
    static class Alarm extends RuntimeException {
        final int number;

        Alarm(int number) {
            super(null, null, false, false);
            this.number = number;
        }
    }

    final Horse[] stalls = new Horse[10];
    final Worker[] sheds = new Worker[6];
    final Horse[][] teams = new Horse[6][];
    final int[][] ledgers = new int[4][];
    final int[][][] tables = new int[4][][];
    final Alarm[] hooks = new Alarm[6];
    final Object[][] sorts = {stalls, sheds, teams, ledgers, tables, hooks};
    final int[] counts = new int[12];
    final List<int[]> tasks = new ArrayList<>();
    final List<int[]> down = new ArrayList<>();
    int came = 0;

    private static boolean no(int i, int n) {
        return i < 0 || i >= n;
    }

    int horse(int stall, int kind, int strength) {
        if (no(stall, 10) || no(kind, 3)) {
            return Due.BAD;
        }
        if (counts[0] == 60) {
            return Due.FULL;
        }
        Horse made = kind == 0 ? new Horse() : kind == 1 ? new Cob() : new Hunter();
        made.told[0] = kind;
        made.told[1] = strength;
        stalls[stall] = made;
        return counts[0]++;
    }

    int wagon(int shed, int load) {
        if (no(shed, 6)) {
            return Due.BAD;
        }
        if (counts[1] == 60) {
            return Due.FULL;
        }
        Wagon made = new Wagon();
        made.load = load;
        sheds[shed] = made;
        return counts[1]++;
    }

    int lead(int stall, int shed) {
        if (no(stall, 10) || no(shed, 6)) {
            return Due.BAD;
        }
        return (sheds[shed] = stalls[stall]) == null ? 0 : 1;
    }

    int empty(int sort, int k) {
        if (no(sort, 6) || no(k, sorts[sort].length)) {
            return Due.BAD;
        }
        int held = sorts[sort][k] == null ? 0 : 1;
        sorts[sort][k] = null;
        return held;
    }

    int tear(int table, int i) {
        if (no(table, 4) || tables[table] == null || no(i, tables[table].length)) {
            return Due.BAD;
        }
        int was = tables[table][i] == null ? 0 : 1;
        tables[table][i] = null;
        return was;
    }

    int hang(int hook, int number) {
        if (no(hook, 6)) {
            return Due.BAD;
        }
        if (counts[2] == 60) {
            return Due.FULL;
        }
        hooks[hook] = new Alarm(number);
        counts[2]++;
        return 1;
    }

    int act(int act, int a, int b, int c) {
        if (no(act, 18)) {
            return Due.BAD;
        }
        int fault = fault(act, a, b, c);
        return fault == 0 ? 1 : -10 - fault;
    }

    int task(int act, int a, int b, int c) {
        if (no(act, 18)) {
            return Due.BAD;
        }
        if (tasks.size() == 20) {
            return Due.FULL;
        }
        tasks.add(new int[] {act, a, b, c});
        return ++counts[3];
    }

    int clear() {
        int had = tasks.size();
        tasks.clear();
        counts[3] = 0;
        return had;
    }

    int day() {
        int good = 0;
        int faulty = 0;
        for (int i = 0; i < tasks.size(); i++) {
            int[] t = tasks.get(i);
            int fault = fault(t[0], t[1], t[2], t[3]);
            if (fault == 0) {
                good++;
                continue;
            }
            faulty++;
            counts[4]++;
            down.add(new int[] {i, fault});
            if (fault == 6) {
                return -10 - faulty;
            }
        }
        return good;
    }

    int book(int i, int what) {
        return no(i, Math.min(40, down.size())) || no(what, 2) ? Due.BAD : down.get(i)[what];
    }

    int horseTells(int stall, int what) {
        return no(stall, 10) || no(what, 6) || stalls[stall] == null ? Due.BAD : stalls[stall].told[what];
    }

    int shed(int k) {
        return no(k, 6) ? Due.BAD : sheds[k] == null ? 0 : sheds[k] instanceof Wagon ? 2 : 1;
    }

    int same(int stall, int other) {
        return no(stall, 10) || no(other, 10) ? Due.BAD : stalls[stall] == stalls[other] ? 1 : 0;
    }

    int count(int what) {
        return no(what, 12) || what == 5 ? Due.OUTSIDE : counts[what];
    }

    private int fault(int act, int a, int b, int c) {
        int fault = 0;
        try {
            came = act < 7 ? horseAct(act, a, b) : act < 12 ? teamAct(act, a, b, c) : otherAct(act, a, b, c);
        } catch (NullPointerException e) {
            fault = 1;
        } catch (NegativeArraySizeException e) {
            fault = 2;
        } catch (ClassCastException e) {
            fault = 3;
        } catch (ArrayStoreException e) {
            fault = 4;
        } catch (ArrayIndexOutOfBoundsException e) {
            fault = 5;
        } catch (Alarm e) {
            fault = 6;
            came = e.number;
        }
        if (fault != 0) {
            counts[5 + fault]++;
        }
        return fault;
    }

    private int horseAct(int act, int a, int b) {
        int stall = Math.floorMod(a, 10);
        int shed = Math.floorMod(a, 6);
        switch (act) {
            case 0: return stalls[stall].told[2] += b;
            case 1: return stalls[stall].told[1];
            case 2: stalls[stall].told[3] = b; return 0;
            case 3: return stalls[stall].groom();
            case 4: return sheds[shed].work(b);
            case 5: return ((Horse) sheds[shed]).told[1];
            default: return ((Hunter) stalls[stall]).told[3];
        }
    }

    private int teamAct(int act, int a, int b, int c) {
        int team = Math.floorMod(a, 6);
        int stall = Math.floorMod(c, 10);
        switch (act) {
            case 7:
                int size = Math.min(c, 8);
                int kind = Math.floorMod(b, 3);
                teams[team] = kind == 0 ? new Horse[size] : kind == 1 ? new Cob[size] : new Hunter[size];
                return size;
            case 8: teams[team][b] = stalls[stall]; return 1;
            case 9: stalls[stall] = teams[team][b]; return stalls[stall] == null ? 0 : 1;
            case 10: return teams[team].length;
            default:
                int last = 0;
                for (Horse h : teams[team]) {
                    last = h.work(b);
                }
                return last;
        }
    }

    private int otherAct(int act, int a, int b, int c) {
        int four = Math.floorMod(a, 4);
        switch (act) {
            case 12: return (ledgers[four] = new int[Math.min(b, 12)]).length;
            case 13: return ledgers[four][b] += c;
            case 14:
                int sum = 0;
                for (int i : ledgers[four]) {
                    sum += i;
                }
                return sum;
            case 15: tables[four] = new int[Math.min(b, 6)][Math.min(c, 6)]; return 1;
            case 16: return ++tables[four][b][c];
            default: throw hooks[Math.floorMod(a, 6)];
        }
    }
}
