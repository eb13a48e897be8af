import java.util.ArrayList;
import java.util.List;

/**
 * The document once more, in the plainest way: every command ever given is kept, and the rules are
 * asked of that list. It shares no code with BankScheduler.
 */
final class Model {
    private static final int OPEN = 0;
    private static final int CLOSE = 1;
    private static final int READ = 2;
    private static final int WRITE = 3;
    private static final int REFRESH = 4;

    record Given(int cycle, int command, int bank, int row) {
    }

    static final class Asked {
        int number;
        boolean writes;
        int bank;
        int row;
        int column;
        int value;
        int came;
        boolean waits = true;
        int done;

        boolean sameWord(Asked other) {
            return bank == other.bank && row == other.row && column == other.column;
        }
    }

    private final int banks;
    private final int places;
    private final int patience;
    private final int[] times = {3, 3, 6, 9, 5, 2, 2, 2, 12, 8, 60, 3};
    private final int[][][] words;
    private final List<Given> given = new ArrayList<>();
    private final List<Given> checked = new ArrayList<>();
    private final List<Asked> asked = new ArrayList<>();
    private int cycle;
    private int checkersCycle;
    private int late;

    Model(int banks, int places, int patience) {
        this.banks = banks < 1 ? 1 : banks > 8 ? 8 : banks;
        this.places = places < 1 ? 1 : places > 12 ? 12 : places;
        this.patience = patience < 1 ? 1 : patience > 1000 ? 1000 : patience;
        words = new int[this.banks][16][8];
    }

    int time(int which, int value) {
        if (which < 0 || which > 11) {
            throw new IndexOutOfBoundsException();
        }
        boolean fits = which == 10 ? 20 <= value && value <= 200 : 1 <= value && value <= 20;
        if (!fits) {
            throw new IllegalArgumentException();
        }
        if (cycle > 0) {
            throw new IllegalStateException();
        }
        int old = times[which];
        times[which] = value;
        return old;
    }

    int read(int bank, int row, int column) {
        return ask(false, bank, row, column, 0);
    }

    int write(int bank, int row, int column, int number) {
        return ask(true, bank, row, column, number);
    }

    int requests() {
        return asked.size();
    }

    private int ask(boolean writes, int bank, int row, int column, int value) {
        word(bank, row, column);
        if (waitingOnes().size() == places) {
            throw new IllegalStateException();
        }
        Asked a = new Asked();
        a.number = asked.size();
        a.writes = writes;
        a.bank = bank;
        a.row = row;
        a.column = column;
        a.value = value;
        a.came = cycle;
        asked.add(a);
        return a.number;
    }

    int tick() {
        Given now = choose();
        cycle++;
        if (now == null) {
            return 0;
        }
        given.add(now);
        return switch (now.command) {
            case REFRESH -> 5000;
            case CLOSE -> 2000 + 100 * now.bank;
            default -> 1000 * (now.command + 1) + 100 * now.bank + now.row;
        };
    }

    private Given choose() {
        int refreshed = lastOf(given, REFRESH, -1);
        if (cycle - Math.max(0, refreshed) >= times[10]) {
            return refreshing();
        }
        List<Asked> lookedAt = waitingOnes();
        if (!lookedAt.isEmpty() && cycle - lookedAt.get(0).came >= patience) {
            lookedAt = lookedAt.subList(0, 1);
        }
        Given hit = hit(lookedAt);
        return hit != null ? hit : way(lookedAt);
    }

    private Given refreshing() {
        if (brokenRule(given, cycle, REFRESH, 0, 0) == 0) {
            return new Given(cycle, REFRESH, 0, 0);
        }
        for (int bank = 0; bank < banks; bank++) {
            if (rowOf(given, bank) >= 0 && brokenRule(given, cycle, CLOSE, bank, 0) == 0) {
                return new Given(cycle, CLOSE, bank, 0);
            }
        }
        return null;
    }

    private Given hit(List<Asked> lookedAt) {
        for (Asked a : lookedAt) {
            boolean behind = false;
            for (Asked older : waitingOnes()) {
                behind |= older.number < a.number && older.sameWord(a);
            }
            int command = a.writes ? WRITE : READ;
            if (rowOf(given, a.bank) == a.row && !behind
                    && brokenRule(given, cycle, command, a.bank, a.row) == 0) {
                serve(a);
                return new Given(cycle, command, a.bank, a.row);
            }
        }
        return null;
    }

    private void serve(Asked a) {
        a.waits = false;
        if (cycle - a.came >= patience) {
            late++;
        }
        if (a.writes) {
            words[a.bank][a.row][a.column] = a.value;
            a.done = cycle;
        } else {
            a.value = words[a.bank][a.row][a.column];
            a.done = cycle + times[11];
        }
    }

    private Given way(List<Asked> lookedAt) {
        for (Asked a : lookedAt) {
            boolean behind = false;
            boolean wanted = false;
            int row = rowOf(given, a.bank);
            for (Asked other : lookedAt) {
                behind |= other.number < a.number && other.bank == a.bank;
                wanted |= other.bank == a.bank && other.row == row;
            }
            if (behind) {
                continue;
            }
            if (row < 0 && brokenRule(given, cycle, OPEN, a.bank, a.row) == 0) {
                return new Given(cycle, OPEN, a.bank, a.row);
            }
            if (row >= 0 && row != a.row && !wanted
                    && brokenRule(given, cycle, CLOSE, a.bank, 0) == 0) {
                return new Given(cycle, CLOSE, a.bank, 0);
            }
        }
        return null;
    }

    int run(int n) {
        if (n < 0 || n > 2000) {
            throw new IllegalArgumentException();
        }
        int before = given.size();
        for (int i = 0; i < n; i++) {
            tick();
        }
        return given.size() - before;
    }

    int result(int request) {
        if (request < 0 || request >= asked.size() || asked.size() - 1 - request >= 32) {
            throw new UnsupportedOperationException();
        }
        Asked a = asked.get(request);
        if (a.waits || cycle <= a.done) {
            throw new IllegalStateException();
        }
        return a.value;
    }

    int word(int bank, int row, int column) {
        if (bank < 0 || bank >= banks || row < 0 || row > 15 || column < 0 || column > 7) {
            throw new IndexOutOfBoundsException();
        }
        return words[bank][row][column];
    }

    int open(int bank) {
        if (bank < 0 || bank >= banks) {
            throw new IndexOutOfBoundsException();
        }
        return rowOf(given, bank);
    }

    int waiting(int k) {
        List<Asked> all = waitingOnes();
        if (k < 0 || k >= all.size()) {
            throw new IndexOutOfBoundsException();
        }
        return all.get(k).number;
    }

    int figure(int what) {
        if (what < 0 || what > 8) {
            throw new IllegalArgumentException();
        }
        if (what >= 1 && what <= 5) {
            int count = 0;
            for (Given g : given) {
                count += g.command == what - 1 ? 1 : 0;
            }
            return count;
        }
        return what == 0 ? cycle
                : what == 6 ? waitingOnes().size() : what == 7 ? late : lastOf(given, REFRESH, -1);
    }

    int check(int command, int bank, int row) {
        boolean none = command < 0 || command > 4;
        none |= command != REFRESH && (bank < 0 || bank >= banks);
        none |= command != REFRESH && command != CLOSE && (row < 0 || row > 15);
        if (none) {
            throw new IndexOutOfBoundsException();
        }
        int broken = brokenRule(checked, checkersCycle, command, bank, row);
        if (broken == 0) {
            checked.add(new Given(checkersCycle, command, bank, row));
        }
        checkersCycle++;
        return broken;
    }

    int pause(int n) {
        if (n < 0 || n > 1000) {
            throw new IllegalArgumentException();
        }
        checkersCycle += n;
        return checkersCycle;
    }

    private List<Asked> waitingOnes() {
        List<Asked> all = new ArrayList<>();
        for (Asked a : asked) {
            if (a.waits) {
                all.add(a);
            }
        }
        return all;
    }

    private static int rowOf(List<Given> list, int bank) {
        for (int i = list.size() - 1; i >= 0; i--) {
            Given g = list.get(i);
            if (g.bank == bank && g.command == OPEN) {
                return g.row;
            }
            if (g.bank == bank && g.command == CLOSE) {
                return -1;
            }
        }
        return -1;
    }

    /** The cycle of the last such command, of a bank or, for -1, of any; -1 if there was none. */
    private static int lastOf(List<Given> list, int command, int bank) {
        for (int i = list.size() - 1; i >= 0; i--) {
            Given g = list.get(i);
            if (g.command == command && (bank == -1 || g.bank == bank)) {
                return g.cycle;
            }
        }
        return -1;
    }

    private static int fourthLastOpen(List<Given> list) {
        int seen = 0;
        for (int i = list.size() - 1; i >= 0; i--) {
            seen += list.get(i).command == OPEN ? 1 : 0;
            if (seen == 4) {
                return list.get(i).cycle;
            }
        }
        return -1;
    }

    private int brokenRule(List<Given> list, int now, int command, int bank, int row) {
        for (int rule = 1; rule <= 16; rule++) {
            if (isOf(rule, command) && !holds(rule, list, now, bank, row)) {
                return rule;
            }
        }
        return 0;
    }

    private static boolean isOf(int rule, int command) {
        return switch (command) {
            case OPEN -> rule <= 6;
            case CLOSE -> rule >= 7 && rule <= 10;
            case REFRESH -> rule >= 14;
            default -> rule >= 11 && rule <= 13;
        };
    }

    private boolean behind(int now, int time, int earlier) {
        return earlier == -1 || earlier + times[time] <= now;
    }

    private boolean holds(int rule, List<Given> list, int now, int bank, int row) {
        switch (rule) {
            case 1:
                return rowOf(list, bank) == -1;
            case 2:
                return behind(now, 1, lastOf(list, CLOSE, bank));
            case 3:
                return behind(now, 3, lastOf(list, OPEN, bank));
            case 4:
                boolean all = true;
                for (int other = 0; other < banks; other++) {
                    all &= other == bank || behind(now, 7, lastOf(list, OPEN, other));
                }
                return all;
            case 5:
                return behind(now, 8, fourthLastOpen(list));
            case 6:
            case 16:
                return behind(now, 9, lastOf(list, REFRESH, -1));
            case 7:
                return rowOf(list, bank) != -1;
            case 8:
                return behind(now, 2, lastOf(list, OPEN, bank));
            case 9:
                return behind(now, 4, lastOf(list, WRITE, bank));
            case 10:
                return behind(now, 5, lastOf(list, READ, bank));
            case 11:
                return rowOf(list, bank) == row;
            case 12:
                return behind(now, 0, lastOf(list, OPEN, bank));
            case 13:
                return behind(now, 6, Math.max(lastOf(list, READ, -1), lastOf(list, WRITE, -1)));
            case 14:
                boolean closed = true;
                for (int each = 0; each < banks; each++) {
                    closed &= rowOf(list, each) == -1;
                }
                return closed;
            default:
                return behind(now, 1, lastOf(list, CLOSE, -1));
        }
    }
}
