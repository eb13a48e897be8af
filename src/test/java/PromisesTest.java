/** Each promise by itself: ordinary inputs, the edges that the document names, and wrong inputs. */
public final class PromisesTest {
    private static final Class<IndexOutOfBoundsException> INDEX = IndexOutOfBoundsException.class;
    private static final Class<IllegalArgumentException> ARGUMENT = IllegalArgumentException.class;
    private static final Class<IllegalStateException> STATE = IllegalStateException.class;
    private static final Class<UnsupportedOperationException> UNSUPPORTED =
            UnsupportedOperationException.class;
    private static final int LOW = Integer.MIN_VALUE;
    private static final int HIGH = Integer.MAX_VALUE;
    private static final Due DUE = new Due("PromisesTest");

    public static void main(String[] args) {
        newObjectHoldsItsLimits();
        newObjectHoldsPatience();
        newObjectIsAtRest();
        timeAnswersTheFormerValue();
        timeRefuses();
        timeIsFixedByACycle();
        readAndWriteNumberRequests();
        readAndWriteRefuse();
        tickTellsWhatWasGiven();
        runCountsCommands();
        runRefuses();
        resultWaitsForTheRead();
        resultOfWrites();
        resultForgetsAfterThirtyTwo();
        resultOfOneThatWaitedTooLong();
        wordTellsWhatIsThereNow();
        openTellsTheRow();
        waitingIsOldestFirst();
        figures();
        figureOfLateOnes();
        checkRefuses();
        checkAndPauseMoveTheCheckersCycle();
        pauseRefuses();
        DUE.end();
    }

    private static int banksOf(BankScheduler x) {
        int banks = 0;
        while (banks < 20 && Due.outcome(bankCall(x, banks)).equals("-1")) {
            banks++;
        }
        return banks;
    }

    private static Due.Call bankCall(BankScheduler x, int bank) {
        return () -> x.open(bank);
    }

    private static int placesOf(BankScheduler x) {
        int places = 0;
        while (places < 20 && Due.outcome(() -> x.read(0, 0, 0)).equals("" + places)) {
            places++;
        }
        return places;
    }

    private static void newObjectHoldsItsLimits() {
        int[][] banks = {{LOW, 1}, {-1, 1}, {0, 1}, {1, 1}, {2, 2}, {7, 7}, {8, 8}, {9, 8}, {HIGH, 8}};
        for (int[] pair : banks) {
            BankScheduler x = new BankScheduler(pair[0], 1, 1);
            DUE.answer("banks of " + pair[0], banksOf(x), pair[1]);
            x.word(pair[1] - 1, 15, 7);
            DUE.refused("word beyond " + pair[1], INDEX, () -> x.word(pair[1], 0, 0));
            DUE.refused("read beyond " + pair[1], INDEX, () -> x.read(pair[1], 0, 0));
            DUE.refused("check beyond " + pair[1], INDEX, () -> x.check(0, pair[1], 0));
            DUE.answer("check of the last bank", x.check(0, pair[1] - 1, 0), 0);
        }
        int[][] places = {{LOW, 1}, {0, 1}, {1, 1}, {2, 2}, {11, 11}, {12, 12}, {13, 12}, {HIGH, 12}};
        for (int[] pair : places) {
            DUE.answer("places of " + pair[0], placesOf(new BankScheduler(1, pair[0], 1)), pair[1]);
        }
    }

    /** A read that came in cycle 0 is late from cycle A on: given at 3, it tells A of 1 .. 3. */
    private static void newObjectHoldsPatience() {
        int[][] late = {{LOW, 1}, {0, 1}, {1, 1}, {3, 1}, {4, 0}, {1000, 0}, {HIGH, 0}};
        for (int[] pair : late) {
            BankScheduler x = new BankScheduler(1, 1, pair[0]);
            x.read(0, 0, 0);
            x.run(4);
            DUE.answer("late with patience " + pair[0], x.figure(7), pair[1]);
        }
        // with patience 1 the oldest one is alone from the second cycle on
        BankScheduler x = new BankScheduler(2, 2, 0);
        x.read(0, 0, 0);
        x.read(1, 0, 0);
        DUE.answer("patience 0: OPEN", x.tick(), 1000);
        DUE.answer("patience 0: no OPEN of the other's bank", x.run(2), 0);
        DUE.answer("patience 0: READ", x.tick(), 3000);
        DUE.answer("patience 0: then the other", x.tick(), 1100);
        patienceIsAtLeastOne();
        patienceIsAtMostThousand();
    }

    private static void patienceIsAtLeastOne() {
        int[][] late = {{LOW, 1}, {0, 1}, {1, 1}, {2, 0}};
        for (int[] pair : late) {
            BankScheduler x = new BankScheduler(1, 2, pair[0]);
            x.time(0, 1);
            x.time(6, 1);
            x.read(0, 0, 0);
            x.tick();
            DUE.answer("READ one behind", x.tick(), 3000);
            // this one is given in the cycle in which it came, so it is late for no patience
            x.read(0, 0, 0);
            DUE.answer("READ at once", x.tick(), 3000);
            DUE.answer("late with patience " + pair[0], x.figure(7), pair[1]);
        }
    }

    /** With such times request 9 of twelve is given in cycle 1000: see lateOfSlowOnes(). */
    private static void patienceIsAtMostThousand() {
        for (int patience : new int[] {999, 1000, 1001, HIGH}) {
            DUE.answer("1000 behind, patience " + patience, lateOfSlowOnes(patience, 12), 3);
        }
        DUE.answer("999 behind, patience 999", lateOfSlowOnes(999, 9), 3);
        DUE.answer("999 behind, patience 1000", lateOfSlowOnes(1000, 9), 2);
    }

    /**
     * Twelve rows of one bank are wanted, and a REFRESH every 120 cycles leaves room for one READ
     * between two of them: READs in 20, 80, 160, 280, .., 160 + 7 * 120 = 1000, 1120, 1240.
     */
    private static int lateOfSlowOnes(int patience, int atFirst) {
        BankScheduler x = new BankScheduler(1, 12, patience);
        for (int which = 0; which < 10; which++) {
            x.time(which, 20);
        }
        x.time(10, 99);
        for (int row = 0; row < 12; row++) {
            if (row == atFirst) {
                x.tick();
            }
            x.read(0, row, 0);
        }
        x.run(1000 - x.figure(0));
        DUE.answer("request 9 waits in cycle 1000", x.waiting(0), 9);
        DUE.answer("and is given in it", x.tick(), 3009);
        x.run(300);
        DUE.answer("none waits", x.figure(6), 0);
        return x.figure(7);
    }

    private static void newObjectIsAtRest() {
        BankScheduler x = new BankScheduler(3, 3, 3);
        for (int what = 0; what <= 7; what++) {
            DUE.answer("figure at first " + what, x.figure(what), 0);
        }
        DUE.answer("last REFRESH at first", x.figure(8), -1);
        DUE.answer("checker's cycle at first", x.pause(0), 0);
        for (int bank = 0; bank < 3; bank++) {
            for (int row = 0; row < 16; row++) {
                for (int column = 0; column < 8; column++) {
                    DUE.answer("word at first", x.word(bank, row, column), 0);
                }
            }
        }
    }

    private static void timeAnswersTheFormerValue() {
        int[] first = {3, 3, 6, 9, 5, 2, 2, 2, 12, 8, 60, 3};
        BankScheduler x = new BankScheduler(1, 1, 1);
        for (int which = 0; which < 12; which++) {
            int least = which == 10 ? 20 : 1;
            int most = which == 10 ? 200 : 20;
            int w = which;
            DUE.refused("too low", ARGUMENT, () -> x.time(w, least - 1));
            DUE.refused("too high", ARGUMENT, () -> x.time(w, most + 1));
            DUE.answer("time " + which + " at first", x.time(which, least), first[which]);
            DUE.answer("time " + which + " at least", x.time(which, most), least);
            DUE.answer("time " + which + " at most", x.time(which, most), most);
        }
    }

    private static void timeRefuses() {
        BankScheduler x = new BankScheduler(1, 1, 1);
        for (int which : new int[] {-1, 12, LOW, HIGH}) {
            DUE.refused("time of none " + which, INDEX, () -> x.time(which, 5));
            DUE.refused("time of none, bad value " + which, INDEX, () -> x.time(which, 0));
        }
        for (int value : new int[] {0, -1, 21, LOW, HIGH}) {
            DUE.refused("time of bad value " + value, ARGUMENT, () -> x.time(0, value));
        }
        x.tick();
        DUE.refused("late, of none", INDEX, () -> x.time(12, 0));
        DUE.refused("late, bad value", ARGUMENT, () -> x.time(10, 19));
        DUE.refused("late", STATE, () -> x.time(10, 20));
    }

    private static void timeIsFixedByACycle() {
        BankScheduler x = new BankScheduler(1, 4, 4);
        x.read(0, 0, 0);
        x.run(0);
        x.pause(7);
        x.check(0, 0, 0);
        DUE.answer("no cycle was gone through", x.time(0, 1), 3);
        DUE.answer("OPEN", x.tick(), 1000);
        DUE.refused("a cycle was gone through", STATE, () -> x.time(0, 3));
        DUE.answer("READ by the new time", x.tick(), 3000);
        BankScheduler y = new BankScheduler(1, 4, 4);
        y.run(1);
        DUE.refused("by run() too", STATE, () -> y.time(0, 3));
    }

    private static void readAndWriteNumberRequests() {
        BankScheduler x = new BankScheduler(8, 12, 1000);
        for (int i = 0; i < 12; i++) {
            int number = i % 2 == 0 ? x.read(i % 8, i, i % 8) : x.write(i % 8, i, i % 8, HIGH - i);
            DUE.answer("number", number, i);
        }
        DUE.refused("a thirteenth", STATE, () -> x.read(0, 0, 0));
        x.run(300);
        DUE.answer("all were given", x.figure(6), 0);
        DUE.answer("a refused one has no number", x.write(0, 0, 0, LOW), 12);
        for (int i = 0; i < 12; i++) {
            DUE.answer("what came of " + i, x.result(i), i % 2 == 0 ? 0 : HIGH - i);
        }
    }

    private static void readAndWriteRefuse() {
        BankScheduler x = new BankScheduler(2, 1, 9);
        int[][] none = {
            {2, 0, 0}, {-1, 0, 0}, {0, 16, 0}, {0, -1, 0}, {0, 0, 8}, {0, 0, -1},
            {HIGH, 0, 0}, {LOW, 0, 0}, {0, HIGH, 0}, {0, LOW, 0}, {0, 0, HIGH}, {0, 0, LOW}};
        for (int round = 0; round < 2; round++) {
            // in the second round a request waits: the word is looked at before the place
            for (int[] w : none) {
                DUE.refused("read of none", INDEX, () -> x.read(w[0], w[1], w[2]));
                DUE.refused("write of none", INDEX, () -> x.write(w[0], w[1], w[2], 1));
                DUE.refused("word of none", INDEX, () -> x.word(w[0], w[1], w[2]));
            }
            if (round == 0) {
                DUE.answer("the edge of the words", x.write(1, 15, 7, 5), 0);
            }
        }
        DUE.refused("read without a place", STATE, () -> x.read(0, 0, 0));
        DUE.refused("write without a place", STATE, () -> x.write(0, 0, 0, 1));
        DUE.answer("one waits", x.figure(6), 1);
        x.run(10);
        DUE.answer("written", x.word(1, 15, 7), 5);
        DUE.answer("place again", x.read(1, 15, 7), 1);
    }

    private static void tickTellsWhatWasGiven() {
        BankScheduler x = new BankScheduler(8, 4, 1000);
        x.write(7, 15, 3, 9);
        int[] first = {1715, 0, 0, 4715};
        for (int want : first) {
            DUE.answer("a write", x.tick(), want);
        }
        x.read(7, 15, 3);
        x.read(7, 4, 3);
        // READ is 2 behind the WRITE (5), CLOSE 5 behind it (8), OPEN 3 behind that and 9 behind 0
        int[] then = {0, 3715, 0, 0, 2700, 0, 0, 1704, 0, 0, 3704};
        for (int want : then) {
            DUE.answer("two reads", x.tick(), want);
        }
        x.run(45);
        DUE.answer("CLOSE for the refresh", x.tick(), 2700);
        x.run(2);
        DUE.answer("REFRESH", x.tick(), 5000);
        DUE.answer("nothing", x.tick(), 0);
    }

    private static void runCountsCommands() {
        BankScheduler x = new BankScheduler(1, 4, 1000);
        x.write(0, 2, 3, 9);
        DUE.answer("run(0)", x.run(0), 0);
        DUE.answer("cycle", x.figure(0), 0);
        DUE.answer("OPEN and WRITE", x.run(4), 2);
        DUE.answer("cycle", x.figure(0), 4);
        DUE.answer("nothing", x.run(56), 0);
        DUE.answer("CLOSE and REFRESH", x.run(4), 2);
        DUE.answer("refreshes at 123, 183 ..", x.run(2000), 33);
        DUE.answer("cycle", x.figure(0), 2064);
        DUE.answer("last REFRESH", x.figure(8), 63 + 33 * 60);
    }

    private static void runRefuses() {
        BankScheduler x = new BankScheduler(1, 4, 1000);
        x.read(0, 0, 0);
        for (int n : new int[] {-1, 2001, LOW, HIGH}) {
            DUE.refused("run(" + n + ")", ARGUMENT, () -> x.run(n));
        }
        DUE.answer("no cycle was gone through", x.figure(0), 0);
        DUE.answer("nor was a command given", x.open(0), -1);
    }

    private static void resultWaitsForTheRead() {
        for (int late : new int[] {1, 3, 20}) {
            BankScheduler x = new BankScheduler(1, 4, 1000);
            x.time(11, late);
            x.write(0, 0, 0, 41);
            x.read(0, 0, 0);
            DUE.refused("not given", STATE, () -> x.result(1));
            x.run(5);
            DUE.refused("still not given", STATE, () -> x.result(1));
            DUE.answer("READ in cycle 5", x.tick(), 3000);
            x.write(0, 0, 0, 42);
            for (int cycle = 6; cycle <= 5 + late; cycle++) {
                int c = cycle;
                DUE.refused("not done, cycle " + c, STATE, () -> x.result(1));
                x.tick();
            }
            DUE.answer("done, with what the word had then", x.result(1), 41);
            x.run(10);
            DUE.answer("and so it stays", x.result(1), 41);
        }
    }

    private static void resultOfWrites() {
        BankScheduler x = new BankScheduler(1, 4, 1000);
        for (int request : new int[] {-1, 0, 1, LOW, HIGH}) {
            DUE.refused("none yet " + request, UNSUPPORTED, () -> x.result(request));
        }
        x.write(0, 0, 0, LOW);
        x.run(3);
        DUE.refused("not given", STATE, () -> x.result(0));
        DUE.answer("WRITE", x.tick(), 4000);
        DUE.answer("done at once", x.result(0), LOW);
        for (int request : new int[] {-1, 1, LOW, HIGH}) {
            DUE.refused("none such " + request, UNSUPPORTED, () -> x.result(request));
        }
    }

    private static void resultForgetsAfterThirtyTwo() {
        BankScheduler x = new BankScheduler(1, 1, 1000);
        for (int i = 0; i < 32; i++) {
            x.write(0, 0, 0, 100 + i);
            x.run(20);
        }
        DUE.answer("31 came behind it", x.result(0), 100);
        x.write(0, 0, 0, 132);
        DUE.refused("32 came behind it", UNSUPPORTED, () -> x.result(0));
        DUE.answer("31 came behind the next", x.result(1), 101);
        DUE.refused("the last waits", STATE, () -> x.result(32));
        x.run(20);
        DUE.answer("the last is done", x.result(32), 132);
        DUE.refused("not of the last, which has its place", UNSUPPORTED, () -> x.result(0));
    }

    /** One that still waits when 32 came behind it must not be taken for a younger one. */
    private static void resultOfOneThatWaitedTooLong() {
        BankScheduler x = new BankScheduler(1, 12, 1000);
        x.time(10, 200);
        x.time(6, 1);
        x.write(0, 0, 0, 1);
        x.run(4);
        x.write(0, 1, 0, 2);
        for (int i = 0; i < 32; i++) {
            DUE.answer("number", x.write(0, 0, i % 8, 1000 + i), i + 2);
            DUE.answer("a younger hit goes first", x.tick(), 4000);
        }
        DUE.answer("the old one waits", x.waiting(0), 1);
        DUE.refused("32 came behind it", UNSUPPORTED, () -> x.result(1));
        DUE.answer("the one in whose place it would be", x.result(33), 1031);
        x.run(30);
        DUE.answer("the old one was given", x.word(0, 1, 0), 2);
        DUE.refused("still forgotten", UNSUPPORTED, () -> x.result(1));
        DUE.answer("and the young one is as it was", x.result(33), 1031);
    }

    private static void wordTellsWhatIsThereNow() {
        BankScheduler x = new BankScheduler(2, 12, 1000);
        x.write(1, 2, 3, 7);
        x.run(3);
        DUE.answer("before the WRITE", x.word(1, 2, 3), 0);
        x.tick();
        DUE.answer("behind the WRITE", x.word(1, 2, 3), 7);
        int sum = 0;
        for (int place = 0; place < 256; place++) {
            sum += x.word(place / 128, place / 8 % 16, place % 8);
        }
        DUE.answer("no other word was written", sum, 7);
        x.write(1, 2, 3, -8);
        x.run(2);
        DUE.answer("written again", x.word(1, 2, 3), -8);
        DUE.answer("word() is no request", x.figure(6), 0);
    }

    private static void openTellsTheRow() {
        BankScheduler x = new BankScheduler(2, 12, 1000);
        x.read(1, 15, 0);
        DUE.answer("closed", x.open(1), -1);
        x.tick();
        DUE.answer("open", x.open(1), 15);
        DUE.answer("the other is closed", x.open(0), -1);
        x.check(0, 0, 3);
        DUE.answer("the checker's banks are others", x.open(0), -1);
        x.run(59);
        DUE.answer("still open", x.open(1), 15);
        x.tick();
        DUE.answer("closed for the refresh", x.open(1), -1);
        for (int bank : new int[] {-1, 2, LOW, HIGH}) {
            DUE.refused("open(" + bank + ")", INDEX, () -> x.open(bank));
        }
    }

    private static void waitingIsOldestFirst() {
        BankScheduler x = new BankScheduler(2, 3, 1000);
        DUE.refused("none waits", INDEX, () -> x.waiting(0));
        x.read(0, 0, 0);
        x.read(0, 1, 0);
        x.read(0, 0, 1);
        for (int k = 0; k < 3; k++) {
            DUE.answer("waiting", x.waiting(k), k);
        }
        for (int k : new int[] {-1, 3, LOW, HIGH}) {
            DUE.refused("waiting(" + k + ")", INDEX, () -> x.waiting(k));
        }
        x.run(6);
        DUE.answer("the hits were given", x.waiting(0), 1);
        DUE.refused("one waits", INDEX, () -> x.waiting(1));
        x.read(1, 1, 1);
        DUE.answer("a new one is the youngest", x.waiting(1), 3);
    }

    private static void figures() {
        BankScheduler x = new BankScheduler(2, 12, 1000);
        x.write(0, 0, 0, 1);
        x.write(0, 0, 1, 2);
        x.write(0, 0, 2, 3);
        x.read(0, 0, 0);
        x.read(0, 1, 0);
        x.read(1, 1, 0);
        x.run(60);
        int[] before = {60, 3, 1, 3, 3, 0, 0, 0, -1};
        for (int what = 0; what < 9; what++) {
            DUE.answer("figure " + what, x.figure(what), before[what]);
        }
        x.read(0, 0, 0);
        x.run(5);
        int[] behind = {65, 3, 3, 3, 3, 1, 1, 0, 64};
        for (int what = 0; what < 9; what++) {
            DUE.answer("figure behind a refresh " + what, x.figure(what), behind[what]);
        }
        for (int what : new int[] {-1, 9, LOW, HIGH}) {
            DUE.refused("figure(" + what + ")", ARGUMENT, () -> x.figure(what));
        }
        x.check(4, 0, 0);
        DUE.answer("the checker's commands do not count", x.figure(5), 1);
    }

    private static void figureOfLateOnes() {
        for (int patience = 2; patience <= 7; patience++) {
            BankScheduler x = new BankScheduler(1, 2, patience);
            x.tick();
            x.write(0, 0, 0, 1);
            x.read(0, 0, 0);
            x.run(30);
            // they came in 1 and were given in 4 and 6
            int want = patience <= 3 ? 2 : patience <= 5 ? 1 : 0;
            DUE.answer("late with patience " + patience, x.figure(7), want);
        }
    }

    private static void checkRefuses() {
        BankScheduler x = new BankScheduler(2, 1, 1);
        for (int command : new int[] {-1, 5, LOW, HIGH}) {
            DUE.refused("command " + command, INDEX, () -> x.check(command, 0, 0));
        }
        for (int command = 0; command < 4; command++) {
            int c = command;
            for (int bank : new int[] {-1, 2, LOW, HIGH}) {
                DUE.refused("bank " + bank, INDEX, () -> x.check(c, bank, 0));
            }
            for (int row : new int[] {-1, 16, LOW, HIGH}) {
                if (command != 1) {
                    DUE.refused("row " + row, INDEX, () -> x.check(c, 0, row));
                }
            }
        }
        DUE.answer("the cycle is as it was", x.pause(0), 0);
        DUE.answer("CLOSE looks at no row", x.check(1, 1, -1), 7);
        DUE.answer("CLOSE looks at no row", x.check(1, 1, HIGH), 7);
        DUE.answer("REFRESH looks at no bank", x.check(4, -1, -1), 0);
        DUE.answer("REFRESH looks at no bank", x.check(4, HIGH, LOW), 16);
        DUE.answer("the last bank and row", x.check(2, 1, 15), 11);
    }

    private static void checkAndPauseMoveTheCheckersCycle() {
        BankScheduler x = new BankScheduler(2, 1, 1);
        x.check(0, 0, 0);
        DUE.answer("behind one allowed", x.pause(0), 1);
        x.check(0, 0, 0);
        DUE.answer("behind one refused", x.pause(0), 2);
        DUE.answer("pause", x.pause(1000), 1002);
        DUE.answer("pause", x.pause(1), 1003);
        DUE.answer("the controller's cycle is another", x.figure(0), 0);
        x.run(5);
        DUE.answer("and the checker's", x.pause(0), 1003);
        DUE.answer("the checker has no refreshing", x.check(2, 0, 0), 0);
    }

    private static void pauseRefuses() {
        BankScheduler x = new BankScheduler(2, 1, 1);
        for (int n : new int[] {-1, 1001, LOW, HIGH}) {
            DUE.refused("pause(" + n + ")", ARGUMENT, () -> x.pause(n));
        }
        DUE.answer("the cycle is as it was", x.pause(0), 0);
    }
}
