/**
 * A controller of a memory of banks with rows, and a checker that watches any stream of commands
 * by the same times. DOC.md holds the promises that this class keeps.
 */
public final class BankScheduler {
    private static final int OPEN = 0;
    private static final int CLOSE = 1;
    private static final int READ = 2;
    private static final int WRITE = 3;
    private static final int REFRESH = 4;
    private static final int COMMANDS = 5;

    private static final int OPEN_TO_ACCESS = 0;
    private static final int AFTER_CLOSE = 1;
    private static final int OPEN_TO_CLOSE = 2;
    private static final int OPEN_TO_OPEN = 3;
    private static final int WRITE_TO_CLOSE = 4;
    private static final int READ_TO_CLOSE = 5;
    private static final int ACCESS_TO_ACCESS = 6;
    private static final int OPEN_TO_OTHER_OPEN = 7;
    private static final int FOUR_OPENS = 8;
    private static final int AFTER_REFRESH = 9;
    private static final int REFRESH_DUE = 10;
    private static final int READ_TO_DONE = 11;

    private static final int[] FIRST_TIMES = {3, 3, 6, 9, 5, 2, 2, 2, 12, 8, 60, 3};
    private static final int[] LEAST_TIMES = {1, 1, 1, 1, 1, 1, 1, 1, 1, 1, 20, 1};
    private static final int[] MOST_TIMES = {20, 20, 20, 20, 20, 20, 20, 20, 20, 20, 200, 20};

    private static final int MOST_BANKS = 8;
    private static final int MOST_PLACES = 12;
    private static final int MOST_PATIENCE = 1000;
    private static final int ROWS = 16;
    private static final int COLUMNS = 8;
    private static final int MOST_RUN = 2000;
    private static final int MOST_PAUSE = 1000;
    private static final int OPENS_KEPT = 4;
    // a power of two, so that a request's number masked by KEPT - 1 is its place
    private static final int KEPT = 32;

    private static final int NONE = -1;
    private static final int ALLOWED = 0;
    // above every cycle, so that the one comparison of result() refuses what was not given
    private static final int NOT_GIVEN = 0x7fffffff;

    private final int patience;
    private final int[] times;
    private final int[] words;
    private final Channel controller;
    private final Channel checker;
    // the first `queued` of these wait, the oldest first; the others are spare, to be used again
    private final Request[] queue;
    private int queued;
    private int requests;
    private int late;
    // a request may wait until 32 came behind it, so what is kept here is apart from the queue
    private final int[] keptNumbers;
    private final int[] keptDone;

    public BankScheduler(int banks, int places, int patience) {
        int bankCount = Math.max(1, Math.min(MOST_BANKS, banks));
        int placeCount = Math.max(1, Math.min(MOST_PLACES, places));
        this.patience = Math.max(1, Math.min(MOST_PATIENCE, patience));
        times = FIRST_TIMES.clone();
        words = new int[bankCount * ROWS * COLUMNS];
        controller = new Channel(bankCount, times);
        checker = new Channel(bankCount, times);
        queue = new Request[placeCount];
        for (int i = 0; i < placeCount; i++) {
            queue[i] = new Request();
        }
        keptNumbers = new int[KEPT];
        keptDone = new int[KEPT];
    }

    public int time(int which, int value)
            throws IndexOutOfBoundsException, IllegalArgumentException, IllegalStateException {
        if (which < 0 || which >= times.length) {
            throw new IndexOutOfBoundsException("no such time");
        }
        if (value < LEAST_TIMES[which] || value > MOST_TIMES[which]) {
            throw new IllegalArgumentException("the time cannot have this value");
        }
        if (controller.cycle != 0) {
            throw new IllegalStateException("a cycle has gone by");
        }
        int before = times[which];
        times[which] = value;
        return before;
    }

    public int read(int bank, int row, int column)
            throws IndexOutOfBoundsException, IllegalStateException {
        refuseNoWord(bank, row, column);
        refuseFullQueue();
        return enqueue(READ, bank, row, column, 0);
    }

    public int write(int bank, int row, int column, int number)
            throws IndexOutOfBoundsException, IllegalStateException {
        refuseNoWord(bank, row, column);
        refuseFullQueue();
        return enqueue(WRITE, bank, row, column, number);
    }

    public int tick() {
        int answer = giveFirst();
        controller.cycle++;
        return answer;
    }

    public int run(int n) throws IllegalArgumentException {
        if (n < 0 || n > MOST_RUN) {
            throw new IllegalArgumentException("n is not 0 .. 2000");
        }
        int commands = 0;
        for (int i = 0; i < n; i++) {
            if (tick() != 0) {
                commands++;
            }
        }
        return commands;
    }

    public int result(int request) throws UnsupportedOperationException, IllegalStateException {
        if (request < 0 || request >= requests || !isKept(request)) {
            throw new UnsupportedOperationException("no such request");
        }
        int place = request & (KEPT - 1);
        if (controller.cycle <= keptDone[place]) {
            throw new IllegalStateException("the request is not done");
        }
        return keptNumbers[place];
    }

    public int word(int bank, int row, int column) throws IndexOutOfBoundsException {
        refuseNoWord(bank, row, column);
        return words[wordPlace(bank, row, column)];
    }

    public int open(int bank) throws IndexOutOfBoundsException {
        if (!controller.hasBank(bank)) {
            throw new IndexOutOfBoundsException("no such bank");
        }
        return controller.openRow[bank];
    }

    public int waiting(int k) throws IndexOutOfBoundsException {
        if (k < 0 || k >= queued) {
            throw new IndexOutOfBoundsException("no such waiting request");
        }
        return queue[k].number;
    }

    public int figure(int what) throws IllegalArgumentException {
        switch (what) {
            case 0:
                return controller.cycle;
            case 1:
            case 2:
            case 3:
            case 4:
            case 5:
                return controller.given[what - 1];
            case 6:
                return queued;
            case 7:
                return late;
            case 8:
                return controller.lastRefresh;
            default:
                throw new IllegalArgumentException("no such figure");
        }
    }

    public int check(int command, int bank, int row) throws IndexOutOfBoundsException {
        if (command < 0 || command >= COMMANDS) {
            throw new IndexOutOfBoundsException("no such command");
        }
        if (command != REFRESH && !checker.hasBank(bank)) {
            throw new IndexOutOfBoundsException("no such bank");
        }
        if (hasRow(command) && !isRow(row)) {
            throw new IndexOutOfBoundsException("no such row");
        }
        int broken = checker.firstBroken(command, bank, row);
        if (broken == ALLOWED) {
            checker.give(command, bank, row);
        }
        checker.cycle++;
        return broken;
    }

    public int pause(int n) throws IllegalArgumentException {
        if (n < 0 || n > MOST_PAUSE) {
            throw new IllegalArgumentException("n is not 0 .. 1000");
        }
        checker.cycle += n;
        return checker.cycle;
    }

    private static boolean hasRow(int command) {
        return command == OPEN || command == READ || command == WRITE;
    }

    private static boolean isRow(int row) {
        return row >= 0 && row < ROWS;
    }

    private static int wordPlace(int bank, int row, int column) {
        return (bank * ROWS + row) * COLUMNS + column;
    }

    private void refuseNoWord(int bank, int row, int column) {
        if (!controller.hasBank(bank) || !isRow(row) || column < 0 || column >= COLUMNS) {
            throw new IndexOutOfBoundsException("no such word");
        }
    }

    private void refuseFullQueue() {
        if (queued >= queue.length) {
            throw new IllegalStateException("no place to wait");
        }
    }

    private boolean isKept(int request) {
        return requests - request <= KEPT;
    }

    private int enqueue(int command, int bank, int row, int column, int number) {
        Request request = queue[queued];
        request.command = command;
        request.bank = bank;
        request.row = row;
        request.place = wordPlace(bank, row, column);
        request.toWrite = number;
        request.number = requests;
        request.cameIn = controller.cycle;
        queued++;
        requests++;
        keptDone[request.number & (KEPT - 1)] = NOT_GIVEN;
        return request.number;
    }

    private int giveFirst() {
        if (refreshIsDue()) {
            return giveRefreshing();
        }
        int lookedAt = countLookedAt();
        int hit = findHit(lookedAt);
        return hit == NONE ? giveWay(lookedAt) : giveHit(hit);
    }

    private boolean refreshIsDue() {
        int since = controller.lastRefresh == NONE ? 0 : controller.lastRefresh;
        return controller.cycle - since >= times[REFRESH_DUE];
    }

    private int giveRefreshing() {
        if (controller.brokenByRefresh() == ALLOWED) {
            return giveCommand(REFRESH, 0, 0);
        }
        for (int bank = 0; bank < controller.openRow.length; bank++) {
            if (controller.brokenByClose(bank) == ALLOWED) {
                return giveCommand(CLOSE, bank, 0);
            }
        }
        return 0;
    }

    private int countLookedAt() {
        return queued > 0 && hasWaitedLong(queue[0]) ? 1 : queued;
    }

    private boolean hasWaitedLong(Request request) {
        return controller.cycle - request.cameIn >= patience;
    }

    private int findHit(int lookedAt) {
        for (int i = 0; i < lookedAt; i++) {
            Request request = queue[i];
            if (controller.brokenByAccess(request.bank, request.row) == ALLOWED
                    && !hasOlderForWord(i)) {
                return i;
            }
        }
        return NONE;
    }

    private boolean hasOlderForWord(int index) {
        for (int i = 0; i < index; i++) {
            if (queue[i].place == queue[index].place) {
                return true;
            }
        }
        return false;
    }

    private int giveHit(int index) {
        Request request = queue[index];
        dequeue(index);
        if (hasWaitedLong(request)) {
            late++;
        }
        int doneIn = controller.cycle;
        if (request.command == WRITE) {
            words[request.place] = request.toWrite;
        } else {
            doneIn += times[READ_TO_DONE];
        }
        if (isKept(request.number)) {
            keptNumbers[request.number & (KEPT - 1)] = words[request.place];
            keptDone[request.number & (KEPT - 1)] = doneIn;
        }
        return giveCommand(request.command, request.bank, request.row);
    }

    private void dequeue(int index) {
        Request request = queue[index];
        for (int i = index + 1; i < queued; i++) {
            queue[i - 1] = queue[i];
        }
        queued--;
        queue[queued] = request;
    }

    private int giveWay(int lookedAt) {
        for (int i = 0; i < lookedAt; i++) {
            Request request = queue[i];
            if (hasOlderForBank(i)) {
                continue;
            }
            int openRow = controller.openRow[request.bank];
            if (openRow == NONE) {
                if (controller.brokenByOpen(request.bank) == ALLOWED) {
                    return giveCommand(OPEN, request.bank, request.row);
                }
            } else if (!isWanted(request.bank, openRow, lookedAt)
                    && controller.brokenByClose(request.bank) == ALLOWED) {
                return giveCommand(CLOSE, request.bank, 0);
            }
        }
        return 0;
    }

    // all that are older than one looked at are looked at too, so no count of these is needed
    private boolean hasOlderForBank(int index) {
        for (int i = 0; i < index; i++) {
            if (queue[i].bank == queue[index].bank) {
                return true;
            }
        }
        return false;
    }

    // the one that would have the bank closed is looked at too, so its own row is never closed
    private boolean isWanted(int bank, int row, int lookedAt) {
        for (int i = 0; i < lookedAt; i++) {
            if (queue[i].bank == bank && queue[i].row == row) {
                return true;
            }
        }
        return false;
    }

    private int giveCommand(int command, int bank, int row) {
        controller.give(command, bank, row);
        int answer = 1000 * (command + 1);
        if (command != REFRESH) {
            answer += 100 * bank;
        }
        if (hasRow(command)) {
            answer += row;
        }
        return answer;
    }

    private static final class Request {
        int command;
        int bank;
        int row;
        int place;
        int toWrite;
        int number;
        int cameIn;
    }

    /** Banks with a cycle of their own, and what the rules ask of the commands given to them. */
    private static final class Channel {
        final int[] times;
        final int[] openRow;
        final int[] lastOpen;
        final int[] lastClose;
        final int[] lastRead;
        final int[] lastWrite;
        final int[] latestOpens;
        final int[] given;
        // where the next OPEN goes in latestOpens: until then the fourth last one is there
        int nextOpen;
        int lastAccess;
        int lastRefresh;
        int cycle;

        Channel(int bankCount, int[] times) {
            this.times = times;
            openRow = new int[bankCount];
            lastOpen = new int[bankCount];
            lastClose = new int[bankCount];
            lastRead = new int[bankCount];
            lastWrite = new int[bankCount];
            latestOpens = new int[OPENS_KEPT];
            given = new int[COMMANDS];
            for (int bank = 0; bank < bankCount; bank++) {
                openRow[bank] = NONE;
                lastOpen[bank] = NONE;
                lastClose[bank] = NONE;
                lastRead[bank] = NONE;
                lastWrite[bank] = NONE;
            }
            for (int i = 0; i < OPENS_KEPT; i++) {
                latestOpens[i] = NONE;
            }
            lastAccess = NONE;
            lastRefresh = NONE;
        }

        boolean hasBank(int bank) {
            return bank >= 0 && bank < openRow.length;
        }

        int firstBroken(int command, int bank, int row) {
            switch (command) {
                case OPEN:
                    return brokenByOpen(bank);
                case CLOSE:
                    return brokenByClose(bank);
                case REFRESH:
                    return brokenByRefresh();
                default:
                    return brokenByAccess(bank, row);
            }
        }

        int brokenByOpen(int bank) {
            if (openRow[bank] != NONE) {
                return 1;
            }
            if (isTooSoon(AFTER_CLOSE, lastClose[bank])) {
                return 2;
            }
            if (isTooSoon(OPEN_TO_OPEN, lastOpen[bank])) {
                return 3;
            }
            if (isTooSoonForOthers(bank)) {
                return 4;
            }
            if (isTooSoon(FOUR_OPENS, latestOpens[nextOpen])) {
                return 5;
            }
            return isTooSoon(AFTER_REFRESH, lastRefresh) ? 6 : ALLOWED;
        }

        int brokenByClose(int bank) {
            if (openRow[bank] == NONE) {
                return 7;
            }
            if (isTooSoon(OPEN_TO_CLOSE, lastOpen[bank])) {
                return 8;
            }
            if (isTooSoon(WRITE_TO_CLOSE, lastWrite[bank])) {
                return 9;
            }
            return isTooSoon(READ_TO_CLOSE, lastRead[bank]) ? 10 : ALLOWED;
        }

        int brokenByAccess(int bank, int row) {
            if (openRow[bank] != row) {
                return 11;
            }
            if (isTooSoon(OPEN_TO_ACCESS, lastOpen[bank])) {
                return 12;
            }
            return isTooSoon(ACCESS_TO_ACCESS, lastAccess) ? 13 : ALLOWED;
        }

        int brokenByRefresh() {
            for (int bank = 0; bank < openRow.length; bank++) {
                if (openRow[bank] != NONE) {
                    return 14;
                }
            }
            for (int bank = 0; bank < openRow.length; bank++) {
                if (isTooSoon(AFTER_CLOSE, lastClose[bank])) {
                    return 15;
                }
            }
            return isTooSoon(AFTER_REFRESH, lastRefresh) ? 16 : ALLOWED;
        }

        void give(int command, int bank, int row) {
            given[command]++;
            switch (command) {
                case OPEN:
                    latestOpens[nextOpen] = cycle;
                    nextOpen = (nextOpen + 1) % OPENS_KEPT;
                    lastOpen[bank] = cycle;
                    openRow[bank] = row;
                    break;
                case CLOSE:
                    lastClose[bank] = cycle;
                    openRow[bank] = NONE;
                    break;
                case READ:
                    lastRead[bank] = cycle;
                    lastAccess = cycle;
                    break;
                case WRITE:
                    lastWrite[bank] = cycle;
                    lastAccess = cycle;
                    break;
                default:
                    lastRefresh = cycle;
                    break;
            }
        }

        private boolean isTooSoonForOthers(int bank) {
            for (int other = 0; other < lastOpen.length; other++) {
                if (other != bank && isTooSoon(OPEN_TO_OTHER_OPEN, lastOpen[other])) {
                    return true;
                }
            }
            return false;
        }

        private boolean isTooSoon(int which, int last) {
            return last != NONE && cycle - last < times[which];
        }
    }
}
