/** Each promise by itself, with ordinary inputs; RefusalsTest and others have their edges. */
public final class PromisesTest {
    private static final int LOW = Due.LOW;
    private static final int HIGH = Due.HIGH;
    private static final Due DUE = new Due("PromisesTest");

    public static void main(String[] args) {
        timeIsFixedByACycle();
        readAndWriteNumberRequests();
        tickTellsWhatWasGiven();
        tickTellsEachBankAndRow();
        runCountsCommands();
        wordTellsWhatIsThereNow();
        openTellsTheRow();
        waitingIsOldestFirst();
        figures();
        figureOfLateOnes();
        checkAndPauseMoveTheCheckersCycle();
        checkerKnowsNothingOfTheController();
        controllerKnowsNothingOfTheChecker();
        DUE.end();
    }

    private static void timeIsFixedByACycle() {
        BankScheduler x = new BankScheduler(1, 4, 4);
        x.read(0, 0, 0);
        x.run(0);
        x.pause(7);
        x.check(0, 0, 0);
        DUE.answer("no cycle was gone through", x.time(0, 1), 3);
        DUE.answer("OPEN", x.tick(), 1000);
        DUE.refused("a cycle was gone through", Due.STATE, () -> x.time(0, 3));
        DUE.answer("READ by the new time", x.tick(), 3000);
        BankScheduler y = new BankScheduler(1, 4, 4);
        y.run(1);
        DUE.refused("by run() too", Due.STATE, () -> y.time(0, 3));
    }

    private static void readAndWriteNumberRequests() {
        BankScheduler x = new BankScheduler(8, 12, 1000);
        for (int i = 0; i < 12; i++) {
            int number = i % 2 == 0 ? x.read(i % 8, i, i % 8) : x.write(i % 8, i, i % 8, HIGH - i);
            DUE.answer("number", number, i);
        }
        DUE.refused("a thirteenth", Due.STATE, () -> x.read(0, 0, 0));
        x.run(300);
        DUE.answer("all were given", x.figure(6), 0);
        DUE.answer("a refused one has no number", x.write(0, 0, 0, LOW), 12);
        for (int i = 0; i < 12; i++) {
            DUE.answer("what came of " + i, x.result(i), i % 2 == 0 ? 0 : HIGH - i);
        }
    }

    private static void tickTellsWhatWasGiven() {
        BankScheduler x = new BankScheduler(8, 4, 1000);
        x.write(7, 15, 3, 9);
        int[] first = {1715, 0, 0, 4715};
        for (int want : first) {
            DUE.answer("a write", x.tick(), want);
        }
        x.read(7, 15, 3);
        x.read(7, 4, 3);
        // READ is 2 behind the WRITE (5), CLOSE 5 behind it (8), OPEN 3 behind that and 9 behind 0
        int[] then = {0, 3715, 0, 0, 2700, 0, 0, 1704, 0, 0, 3704};
        for (int want : then) {
            DUE.answer("two reads", x.tick(), want);
        }
        x.run(45);
        DUE.answer("CLOSE for the refresh", x.tick(), 2700);
        x.run(2);
        DUE.answer("REFRESH", x.tick(), 5000);
        DUE.answer("nothing", x.tick(), 0);
    }

    /** "but for REFRESH, 100 * the bank, and for OPEN, READ and WRITE the row more" */
    private static void tickTellsEachBankAndRow() {
        for (int bank = 0; bank < 8; bank++) {
            for (int row = 0; row < 16; row++) {
                BankScheduler x = new BankScheduler(8, 2, 1000);
                int place = 100 * bank + row;
                x.write(bank, row, 0, 1);
                x.read(bank, row, 0);
                int[] first = {1000 + place, 0, 0, 4000 + place, 0, 3000 + place};
                for (int want : first) {
                    DUE.answer("in bank " + bank + ", row " + row, x.tick(), want);
                }
                x.run(54);
                int[] then = {2000 + 100 * bank, 0, 0, 5000, 0};
                for (int want : then) {
                    DUE.answer("refreshing bank " + bank + ", row " + row, x.tick(), want);
                }
            }
        }
    }

    private static void runCountsCommands() {
        BankScheduler x = new BankScheduler(1, 4, 1000);
        x.write(0, 2, 3, 9);
        DUE.answer("run(0)", x.run(0), 0);
        DUE.answer("cycle", x.figure(0), 0);
        DUE.answer("OPEN and WRITE", x.run(4), 2);
        DUE.answer("cycle", x.figure(0), 4);
        DUE.answer("nothing", x.run(56), 0);
        DUE.answer("CLOSE and REFRESH", x.run(4), 2);
        DUE.answer("refreshes at 123, 183 ..", x.run(2000), 33);
        DUE.answer("cycle", x.figure(0), 2064);
        DUE.answer("last REFRESH", x.figure(8), 63 + 33 * 60);
    }

    private static void wordTellsWhatIsThereNow() {
        BankScheduler x = new BankScheduler(2, 12, 1000);
        x.write(1, 2, 3, 7);
        x.run(3);
        DUE.answer("before the WRITE", x.word(1, 2, 3), 0);
        x.tick();
        DUE.answer("behind the WRITE", x.word(1, 2, 3), 7);
        int sum = 0;
        for (int place = 0; place < 256; place++) {
            sum += x.word(place / 128, place / 8 % 16, place % 8);
        }
        DUE.answer("no other word was written", sum, 7);
        x.write(1, 2, 3, -8);
        x.run(2);
        DUE.answer("written again", x.word(1, 2, 3), -8);
        DUE.answer("word() is no request", x.figure(6), 0);
    }

    private static void openTellsTheRow() {
        BankScheduler x = new BankScheduler(2, 12, 1000);
        x.read(1, 15, 0);
        DUE.answer("closed", x.open(1), -1);
        x.tick();
        DUE.answer("open", x.open(1), 15);
        DUE.answer("the other is closed", x.open(0), -1);
        x.check(0, 0, 3);
        DUE.answer("the checker's banks are others", x.open(0), -1);
        x.run(59);
        DUE.answer("still open", x.open(1), 15);
        x.tick();
        DUE.answer("closed for the refresh", x.open(1), -1);
        for (int bank : new int[] {-1, 2, LOW, HIGH}) {
            DUE.refused("open(" + bank + ")", Due.INDEX, () -> x.open(bank));
        }
    }

    private static void waitingIsOldestFirst() {
        BankScheduler x = new BankScheduler(2, 3, 1000);
        DUE.refused("none waits", Due.INDEX, () -> x.waiting(0));
        x.read(0, 0, 0);
        x.read(0, 1, 0);
        x.read(0, 0, 1);
        for (int k = 0; k < 3; k++) {
            DUE.answer("waiting", x.waiting(k), k);
        }
        for (int k : new int[] {-1, 3, LOW, HIGH}) {
            DUE.refused("waiting(" + k + ")", Due.INDEX, () -> x.waiting(k));
        }
        x.run(6);
        DUE.answer("the hits were given", x.waiting(0), 1);
        DUE.refused("one waits", Due.INDEX, () -> x.waiting(1));
        x.read(1, 1, 1);
        DUE.answer("a new one is the youngest", x.waiting(1), 3);
    }

    private static void figures() {
        BankScheduler x = new BankScheduler(2, 12, 1000);
        x.write(0, 0, 0, 1);
        x.write(0, 0, 1, 2);
        x.write(0, 0, 2, 3);
        x.read(0, 0, 0);
        x.read(0, 1, 0);
        x.read(1, 1, 0);
        x.run(60);
        int[] before = {60, 3, 1, 3, 3, 0, 0, 0, -1};
        for (int what = 0; what < 9; what++) {
            DUE.answer("figure " + what, x.figure(what), before[what]);
        }
        x.read(0, 0, 0);
        x.run(5);
        int[] behind = {65, 3, 3, 3, 3, 1, 1, 0, 64};
        for (int what = 0; what < 9; what++) {
            DUE.answer("figure behind a refresh " + what, x.figure(what), behind[what]);
        }
        for (int what : new int[] {-1, 9, LOW, HIGH}) {
            DUE.refused("figure(" + what + ")", Due.ARGUMENT, () -> x.figure(what));
        }
        x.check(4, 0, 0);
        DUE.answer("the checker's commands do not count", x.figure(5), 1);
    }

    private static void figureOfLateOnes() {
        for (int patience = 2; patience <= 7; patience++) {
            BankScheduler x = new BankScheduler(1, 2, patience);
            x.tick();
            x.write(0, 0, 0, 1);
            x.read(0, 0, 0);
            x.run(30);
            // they came in 1 and were given in 4 and 6
            int want = patience <= 3 ? 2 : patience <= 5 ? 1 : 0;
            DUE.answer("late with patience " + patience, x.figure(7), want);
        }
    }

    private static void checkAndPauseMoveTheCheckersCycle() {
        BankScheduler x = new BankScheduler(2, 1, 1);
        x.check(0, 0, 0);
        DUE.answer("behind one allowed", x.pause(0), 1);
        x.check(0, 0, 0);
        DUE.answer("behind one refused", x.pause(0), 2);
        DUE.answer("pause", x.pause(1000), 1002);
        DUE.answer("pause", x.pause(1), 1003);
        DUE.answer("the controller's cycle is another", x.figure(0), 0);
        x.run(5);
        DUE.answer("and the checker's", x.pause(0), 1003);
        DUE.answer("the checker has no refreshing", x.check(2, 0, 0), 0);
    }

    private static void checkerKnowsNothingOfTheController() {
        BankScheduler x = new BankScheduler(2, 4, 1000);
        x.read(0, 3, 0);
        DUE.answer("the controller's OPEN", x.tick(), 1003);
        DUE.answer("its own bank is closed", x.check(2, 0, 3), 11);
        DUE.answer("and was never opened", x.check(0, 1, 3), 0);
        x.run(70);
        DUE.answer("the controller's REFRESH", x.figure(5), 1);
        DUE.answer("its own bank is open still", x.check(4, 0, 0), 14);
        x.pause(6);
        DUE.answer("CLOSE", x.check(1, 1, 0), 0);
        x.pause(2);
        DUE.answer("its own first REFRESH", x.check(4, 0, 0), 0);
    }

    private static void controllerKnowsNothingOfTheChecker() {
        BankScheduler x = new BankScheduler(2, 4, 1000);
        DUE.answer("the checker's REFRESH", x.check(4, 0, 0), 0);
        x.pause(20);
        DUE.answer("the checker's OPEN", x.check(0, 1, 3), 0);
        x.pause(20);
        DUE.answer("the checker's WRITE", x.check(3, 1, 3), 0);
        for (int what = 0; what < 8; what++) {
            DUE.answer("figure " + what, x.figure(what), 0);
        }
        DUE.answer("no REFRESH", x.figure(8), -1);
        DUE.answer("no row", x.open(1), -1);
        x.read(1, 3, 0);
        DUE.answer("its own OPEN", x.tick(), 1103);
    }
}
