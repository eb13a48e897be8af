import java.util.List;

/**
 * "Methods throw what they list, the first that is so, in the order in which it is told; a call
 * that throws changes nothing.": for each method the last arguments inside, the first outside.
 */
public final class RefusalsTest {
    private static final int LOW = Due.LOW;
    private static final int HIGH = Due.HIGH;
    private static final int BANKS = 2;
    private static final Due DUE = new Due("RefusalsTest");

    /** No such word, by one argument or by more; some have the place of another word. */
    private static final int[][] NO_WORDS = {
        {-1, 0, 0}, {BANKS, 0, 0}, {LOW, 0, 0}, {HIGH, 0, 0},
        {0, -1, 0}, {1, -1, 0}, {0, 16, 0}, {1, 16, 0}, {0, LOW, 0}, {0, HIGH, 0},
        {0, 0, -1}, {1, 0, -1}, {0, 1, -1}, {0, 0, 8}, {1, 15, 8}, {0, 0, LOW}, {0, 0, HIGH},
        {-1, 16, 0}, {BANKS, -1, 7}, {1, -1, 8}, {-1, -1, -1}, {BANKS, 16, 8}};

    public static void main(String[] args) {
        timeTakesWhatIsInside();
        timeOfNone();
        timeOfAValueThatItCannotHave();
        timeBehindACycle();
        timeRefusesTheFirstThatIsSo();
        timeThatIsRefusedIsAsItWas();
        wordsInside();
        readOfNoWord();
        writeOfNoWord();
        readWhenQWait();
        writeWhenQWait();
        noWordGoesBeforeNoPlace();
        refusedRequestHasNoNumber();
        runTakesWhatIsInside();
        runOutside();
        resultOfNone();
        resultOfOneNotDone();
        wordOfNone();
        openOfNone();
        waitingOfNone();
        waitingAtEachLength();
        figureInside();
        figureOfAnother();
        checkInside();
        checkOfNoCommand();
        checkOfNoBank();
        checkOfNoRow();
        checkLooksAtNothingElse();
        pauseInside();
        pauseOutside();
        DUE.end();
    }

    private static Twins fresh() {
        return new Twins(DUE, BANKS, 3, 9);
    }

    /** Three requests, which are all that may wait. */
    private static Twins full() {
        Twins twins = fresh();
        twins.both("write", x -> x.write(0, 3, 1, 7));
        twins.both("read", x -> x.read(0, 3, 1));
        twins.both("read", x -> x.read(1, 4, 2));
        return twins;
    }

    /** In cycle 6: request 0 is done, request 1 is given and not done, request 2 waits. */
    private static Twins busy() {
        Twins twins = full();
        twins.both("run", x -> x.run(6));
        twins.both("check", x -> x.check(0, 0, 3));
        twins.both("check", x -> x.check(2, 0, 3));
        twins.both("pause", x -> x.pause(1));
        return twins;
    }

    /** Of 36 requests all are done, and 32 or more came behind the first four. */
    private static Twins old() {
        Twins twins = fresh();
        for (int i = 0; i < 12; i++) {
            int number = i;
            for (int k = 0; k < 3; k++) {
                twins.both("write", x -> x.write(number % 2, 3, number % 8, 100 + number));
            }
            twins.both("run", x -> x.run(80));
        }
        return twins;
    }

    private static List<Twins> all() {
        return List.of(fresh(), full(), busy(), old());
    }

    private static int least(int which) {
        return which == 10 ? 20 : 1;
    }

    private static int most(int which) {
        return which == 10 ? 200 : 20;
    }

    /** "(each 1 .. 20), 10: 60 (20 .. 200), 11: 3 (1 .. 20)" and "the one that it had" */
    private static void timeTakesWhatIsInside() {
        int[] first = {3, 3, 6, 9, 5, 2, 2, 2, 12, 8, 60, 3};
        for (int which = 0; which < 12; which++) {
            BankScheduler x = new BankScheduler(1, 1, 1);
            String what = "time " + which;
            DUE.answer(what + " at first", x.time(which, least(which)), first[which]);
            DUE.answer(what + " at least", x.time(which, most(which)), least(which));
            DUE.answer(what + " at most", x.time(which, most(which) - 1), most(which));
            DUE.answer(what + " below that", x.time(which, least(which) + 1), most(which) - 1);
            DUE.answer(what + " above the least", x.time(which, first[which]), least(which) + 1);
            for (int other = 0; other < 12; other++) {
                DUE.answer("no other time", x.time(other, first[other]), first[other]);
            }
        }
    }

    /** "IndexOutOfBounds: which is not 0 .. 11" */
    private static void timeOfNone() {
        for (Twins twins : all()) {
            for (int which : new int[] {-1, 12, LOW, HIGH}) {
                twins.refused("time(" + which + ")", Due.INDEX, x -> x.time(which, 20));
            }
            twins.areTheSame("behind time() of none");
        }
    }

    /** "IllegalArgument: it cannot have this value" */
    private static void timeOfAValueThatItCannotHave() {
        for (Twins twins : List.of(fresh(), full(), busy())) {
            for (int which = 0; which < 12; which++) {
                int w = which;
                twins.refused("time too small", Due.ARGUMENT, x -> x.time(w, least(w) - 1));
                twins.refused("time too large", Due.ARGUMENT, x -> x.time(w, most(w) + 1));
            }
            for (int value : new int[] {LOW, -1, HIGH}) {
                twins.refused("time 0 of " + value, Due.ARGUMENT, x -> x.time(0, value));
                twins.refused("time 10 of " + value, Due.ARGUMENT, x -> x.time(10, value));
            }
            twins.areTheSame("behind time() of a bad value");
        }
    }

    /** "IllegalState: the controller has gone through a cycle already" */
    private static void timeBehindACycle() {
        Twins none = full();
        none.both("run(0)", x -> x.run(0));
        none.both("check", x -> x.check(0, 0, 0));
        none.both("pause", x -> x.pause(1000));
        none.both("no cycle was gone through", x -> x.time(0, 4));
        none.refused("run(-1)", Due.ARGUMENT, x -> x.run(-1));
        none.areTheSame("before the first cycle");
        BankScheduler still = new BankScheduler(1, 1, 1);
        still.run(0);
        still.check(0, 0, 0);
        still.pause(1000);
        DUE.answer("before the first cycle", still.time(0, 4), 3);
        List<Twins.Use> cycles = List.of(x -> x.tick(), x -> x.run(1), x -> x.run(2000));
        for (Twins.Use cycle : cycles) {
            Twins twins = full();
            twins.both("a cycle", cycle);
            for (int which = 0; which < 12; which++) {
                int w = which;
                twins.refused("time behind a cycle", Due.STATE, x -> x.time(w, least(w)));
                twins.refused("time behind a cycle", Due.STATE, x -> x.time(w, most(w)));
            }
            twins.areTheSame("behind time() behind a cycle");
        }
    }

    private static void timeRefusesTheFirstThatIsSo() {
        for (Twins twins : all()) {
            for (int which : new int[] {-1, 12, LOW, HIGH}) {
                twins.refused("no time, no value", Due.INDEX, x -> x.time(which, 0));
                twins.refused("no time, no value", Due.INDEX, x -> x.time(which, 201));
            }
            twins.areTheSame("behind time() of neither");
        }
        Twins twins = busy();
        twins.refused("no time, and a cycle", Due.INDEX, x -> x.time(12, 20));
        twins.refused("all three", Due.INDEX, x -> x.time(-1, 0));
        for (int which = 0; which < 12; which++) {
            int w = which;
            twins.refused("no value, and a cycle", Due.ARGUMENT, x -> x.time(w, least(w) - 1));
            twins.refused("no value, and a cycle", Due.ARGUMENT, x -> x.time(w, most(w) + 1));
            twins.refused("a cycle alone", Due.STATE, x -> x.time(w, most(w)));
        }
        twins.areTheSame("behind time() in a wrong order");
    }

    /** By what the checker and the controller then do, as time() itself tells no more. */
    private static void timeThatIsRefusedIsAsItWas() {
        int[] set = {3, 1, 1, 9, 5, 2, 2, 2, 12, 8, 60, 3};
        for (int which = 0; which < 12; which++) {
            for (int value : new int[] {least(which), set[which] + 1, most(which)}) {
                BankScheduler x = new BankScheduler(5, 1, 1);
                for (int each = 0; each < 12; each++) {
                    x.time(each, set[each]);
                }
                x.tick();
                int w = which;
                DUE.refused("behind a cycle", Due.STATE, () -> x.time(w, value));
                int[] measured = measuredTimes(x);
                for (int each = 0; each < 12; each++) {
                    DUE.answer("time " + each + " behind time(" + which + ", " + value + ")",
                            measured[each], set[each]);
                }
            }
        }
    }

    /** Each time by the commands that it keeps apart; only for times like those above. */
    private static int[] measuredTimes(BankScheduler x) {
        int[] times = new int[12];
        x.check(0, 0, 0);
        times[0] = cyclesUntilAllowed(x, 2, 0);
        times[6] = cyclesUntilAllowed(x, 2, 0);
        x.pause(20);
        x.check(2, 0, 0);
        times[5] = cyclesUntilAllowed(x, 1, 0);
        times[1] = cyclesUntilAllowed(x, 0, 0);
        times[2] = cyclesUntilAllowed(x, 1, 0);
        times[3] = times[2] + cyclesUntilAllowed(x, 0, 0);
        x.pause(20);
        x.check(3, 0, 0);
        times[4] = cyclesUntilAllowed(x, 1, 0);
        x.pause(20);
        x.check(4, 0, 0);
        times[9] = cyclesUntilAllowed(x, 4, 0);
        x.pause(20);
        x.check(0, 0, 0);
        times[7] = cyclesUntilAllowed(x, 0, 1);
        times[8] = times[7];
        for (int bank = 2; bank < 5; bank++) {
            times[8] += cyclesUntilAllowed(x, 0, bank);
        }
        x.run(100);
        times[10] = x.figure(8);
        int request = x.read(0, 0, 0);
        while (x.figure(6) == 1 && x.figure(0) < 200) {
            x.tick();
        }
        while (times[11] < 25 && Due.outcome(() -> x.result(request)).contains("State")) {
            times[11]++;
            x.tick();
        }
        return times;
    }

    /** How many cycles behind the command before it, which was given in the cycle before this. */
    private static int cyclesUntilAllowed(BankScheduler x, int command, int bank) {
        for (int cycles = 1; cycles <= 25; cycles++) {
            if (x.check(command, bank, 0) == 0) {
                return cycles;
            }
        }
        return -1;
    }

    /** "each with 16 ROWS of 8 WORDS": the words at the corners are there for each method. */
    private static void wordsInside() {
        for (int bank : new int[] {0, BANKS - 1}) {
            for (int row : new int[] {0, 15}) {
                for (int column : new int[] {0, 7}) {
                    BankScheduler x = new BankScheduler(BANKS, 2, 1000);
                    DUE.answer("word inside", x.word(bank, row, column), 0);
                    DUE.answer("write inside", x.write(bank, row, column, 5), 0);
                    DUE.answer("read inside", x.read(bank, row, column), 1);
                    x.run(20);
                    DUE.answer("what was read", x.result(1), 5);
                    DUE.answer("what is there", x.word(bank, row, column), 5);
                    DUE.answer("check inside", x.check(0, bank, row), 0);
                }
            }
        }
    }

    /** Of read(): "IndexOutOfBounds: there is no such word" */
    private static void readOfNoWord() {
        for (Twins twins : List.of(fresh(), busy())) {
            for (int[] w : NO_WORDS) {
                twins.refused("read of no word", Due.INDEX, x -> x.read(w[0], w[1], w[2]));
            }
            twins.areTheSame("behind read() of no word");
        }
    }

    /** Of write(): "As for read()." */
    private static void writeOfNoWord() {
        for (Twins twins : List.of(fresh(), busy())) {
            for (int[] w : NO_WORDS) {
                twins.refused("write of no word", Due.INDEX, x -> x.write(w[0], w[1], w[2], 5));
            }
            twins.areTheSame("behind write() of no word");
        }
    }

    /** Of read(): "IllegalState: Q wait" */
    private static void readWhenQWait() {
        Twins twins = full();
        for (int i = 0; i < 20; i++) {
            int column = i % 8;
            twins.refused("read when three wait", Due.STATE, x -> x.read(column % 2, 3, column));
        }
        twins.areTheSame("behind read() when all places are taken");
    }

    /** Of write(): "As for read()." */
    private static void writeWhenQWait() {
        Twins twins = full();
        for (int i = 0; i < 20; i++) {
            int column = i % 8;
            twins.refused("write when three wait", Due.STATE, x -> x.write(column % 2, 3, column, 9));
        }
        twins.areTheSame("behind write() when all places are taken");
    }

    private static void noWordGoesBeforeNoPlace() {
        Twins twins = full();
        for (int[] w : NO_WORDS) {
            twins.refused("read of no word, no place", Due.INDEX, x -> x.read(w[0], w[1], w[2]));
            twins.refused("write of no word, no place", Due.INDEX, x -> x.write(w[0], w[1], w[2], 5));
        }
        twins.areTheSame("behind requests for no word without a place");
    }

    /** The numbers "0, 1, .. as they came": those that were refused did not come. */
    private static void refusedRequestHasNoNumber() {
        BankScheduler x = new BankScheduler(BANKS, 1, 1000);
        for (int number = 0; number < 40; number++) {
            DUE.refused("read of no word", Due.INDEX, () -> x.read(0, 0, 8));
            DUE.answer("its number", x.write(0, 3, 0, 100 + number), number);
            DUE.refused("write without a place", Due.STATE, () -> x.write(0, 3, 0, 1));
            DUE.refused("read without a place", Due.STATE, () -> x.read(0, 3, 0));
            DUE.answer("the one that waits", x.waiting(0), number);
            x.run(80);
            DUE.answer("what it wrote", x.result(number), 100 + number);
        }
    }

    /** "n is not 0 .. 2000": these are. */
    private static void runTakesWhatIsInside() {
        for (int n : new int[] {0, 1, 2, 1999, 2000}) {
            BankScheduler x = new BankScheduler(1, 1, 1);
            x.time(10, 20);
            DUE.answer("run(" + n + ")", x.run(n), n == 0 ? 0 : (n - 1) / 20);
            DUE.answer("the cycle behind it", x.figure(0), n);
        }
    }

    /** Of run(): "IllegalArgument: n is not 0 .. 2000" */
    private static void runOutside() {
        for (Twins twins : all()) {
            for (int n : new int[] {-1, 2001, -2000, LOW, HIGH}) {
                twins.refused("run(" + n + ")", Due.ARGUMENT, x -> x.run(n));
            }
            twins.areTheSame("behind run() outside");
        }
    }

    /** Of result(): "UnsupportedOperation: there is none such, or 32 came behind it" */
    private static void resultOfNone() {
        int[] came = {0, 3, 3, 36};
        for (int i = 0; i < came.length; i++) {
            Twins twins = all().get(i);
            for (int request : new int[] {-1, LOW, HIGH, came[i], came[i] + 1, came[i] + 32, -32}) {
                twins.refused("result(" + request + ")", Due.UNSUPPORTED, x -> x.result(request));
            }
            for (int request = 0; request <= came[i] - 33; request++) {
                int r = request;
                twins.refused("32 came behind " + r, Due.UNSUPPORTED, x -> x.result(r));
            }
            twins.areTheSame("behind result() of none");
        }
    }

    /** Of result(): "IllegalState: it is not done" */
    private static void resultOfOneNotDone() {
        Twins twins = full();
        for (int request = 0; request < 3; request++) {
            int r = request;
            twins.refused("result of one that waits", Due.STATE, x -> x.result(r));
        }
        twins.areTheSame("behind result() of those that wait");
        Twins other = busy();
        other.refused("result of a read that is given", Due.STATE, x -> x.result(1));
        other.refused("result of one that waits", Due.STATE, x -> x.result(2));
        other.areTheSame("behind result() of those not done");
    }

    /** Of word(): "IndexOutOfBounds: there is none such" */
    private static void wordOfNone() {
        for (Twins twins : List.of(fresh(), full(), busy())) {
            for (int[] w : NO_WORDS) {
                twins.refused("word of none", Due.INDEX, x -> x.word(w[0], w[1], w[2]));
            }
            twins.areTheSame("behind word() of none");
        }
    }

    /** Of open(): "IndexOutOfBounds: there is no such bank" */
    private static void openOfNone() {
        for (Twins twins : all()) {
            for (int bank : new int[] {-1, BANKS, BANKS + 1, 8, LOW, HIGH}) {
                twins.refused("open(" + bank + ")", Due.INDEX, x -> x.open(bank));
            }
            twins.areTheSame("behind open() of none");
        }
    }

    /** Of waiting(): "IndexOutOfBounds: there is none such" */
    private static void waitingOfNone() {
        int[] wait = {0, 3, 1, 0};
        for (int i = 0; i < wait.length; i++) {
            Twins twins = all().get(i);
            for (int k : new int[] {-1, wait[i], wait[i] + 1, 12, LOW, HIGH}) {
                twins.refused("waiting(" + k + ")", Due.INDEX, x -> x.waiting(k));
            }
            twins.areTheSame("behind waiting() of none");
        }
    }

    private static void waitingAtEachLength() {
        BankScheduler x = new BankScheduler(1, 12, 1000);
        for (int wait = 0; wait <= 12; wait++) {
            waitingIs("came", x, 0, wait);
            if (wait < 12) {
                x.read(0, 0, wait % 8);
            }
        }
        x.run(3);
        for (int given = 1; given <= 12; given++) {
            DUE.answer("READ", x.tick(), 3000);
            waitingIs("given", x, given, 12 - given);
            x.tick();
        }
    }

    private static void waitingIs(String what, BankScheduler x, int first, int wait) {
        DUE.answer(what + ", how many wait", x.figure(6), wait);
        for (int k = 0; k < wait; k++) {
            DUE.answer(what + ", waiting(" + k + ")", x.waiting(k), first + k);
        }
        DUE.refused(what + ", waiting(" + wait + ")", Due.INDEX, () -> x.waiting(wait));
        DUE.refused(what + ", waiting(-1)", Due.INDEX, () -> x.waiting(-1));
    }

    /** Each what that there is, with numbers that are all different. */
    private static void figureInside() {
        BankScheduler x = new BankScheduler(2, 12, 8);
        for (int row = 0; row < 4; row++) {
            x.write(0, row, 0, row);
        }
        x.read(1, 0, 0);
        x.read(1, 0, 1);
        // WRITEs in 3, 14, 25, 36, CLOSEs in 60 and 61, and one REFRESH
        x.run(100);
        for (int column = 0; column < 7; column++) {
            x.read(1, 0, column);
        }
        x.tick();
        int[] want = {101, 6, 5, 2, 4, 1, 7, 3, 64};
        for (int what = 0; what < want.length; what++) {
            DUE.answer("figure(" + what + ")", x.figure(what), want[what]);
        }
    }

    /** Of figure(): "IllegalArgument: another what" */
    private static void figureOfAnother() {
        for (Twins twins : all()) {
            for (int what : new int[] {-1, 9, 10, LOW, HIGH}) {
                twins.refused("figure(" + what + ")", Due.ARGUMENT, x -> x.figure(what));
            }
            twins.areTheSame("behind figure() of another what");
        }
    }

    /** The first and the last command, bank and row that there are. */
    private static void checkInside() {
        for (int bank : new int[] {0, 7}) {
            for (int row : new int[] {0, 15}) {
                BankScheduler x = new BankScheduler(8, 1, 1);
                DUE.answer("OPEN", x.check(0, bank, row), 0);
                x.pause(20);
                DUE.answer("READ", x.check(2, bank, row), 0);
                x.pause(20);
                DUE.answer("WRITE", x.check(3, bank, row), 0);
                x.pause(20);
                DUE.answer("CLOSE", x.check(1, bank, row), 0);
                x.pause(20);
                DUE.answer("REFRESH", x.check(4, bank, row), 0);
                DUE.answer("the cycle", x.pause(0), 85);
            }
        }
    }

    /** Of check(): "IndexOutOfBounds: command is not 0 .. 4" */
    private static void checkOfNoCommand() {
        for (Twins twins : all()) {
            for (int command : new int[] {-1, 5, LOW, HIGH}) {
                twins.refused("command " + command, Due.INDEX, x -> x.check(command, 0, 3));
                twins.refused("command " + command, Due.INDEX, x -> x.check(command, BANKS, 16));
            }
            twins.areTheSame("behind check() of no command");
        }
    }

    /** Of check(): "or (but for REFRESH) there is no such bank" */
    private static void checkOfNoBank() {
        for (Twins twins : all()) {
            for (int command = 0; command < 4; command++) {
                int c = command;
                for (int bank : new int[] {-1, BANKS, LOW, HIGH}) {
                    twins.refused("bank " + bank, Due.INDEX, x -> x.check(c, bank, 3));
                }
            }
            twins.areTheSame("behind check() of no bank");
        }
    }

    /** Of check(): "or (for OPEN, READ and WRITE) no such row" */
    private static void checkOfNoRow() {
        for (Twins twins : all()) {
            for (int command : new int[] {0, 2, 3}) {
                for (int row : new int[] {-1, 16, LOW, HIGH}) {
                    twins.refused("row " + row, Due.INDEX, x -> x.check(command, 0, row));
                    twins.refused("row " + row, Due.INDEX, x -> x.check(command, BANKS - 1, row));
                }
            }
            twins.areTheSame("behind check() of no row");
        }
    }

    /** CLOSE is told no row and REFRESH neither bank nor row, so none of these can be wrong. */
    private static void checkLooksAtNothingElse() {
        int[] none = {-1, 16, LOW, HIGH};
        for (int row : none) {
            BankScheduler x = new BankScheduler(BANKS, 1, 1);
            DUE.answer("CLOSE of a closed bank", x.check(1, 0, row), 7);
            x.check(0, 0, 3);
            x.pause(20);
            DUE.answer("CLOSE with row " + row, x.check(1, 0, row), 0);
            DUE.answer("CLOSE again", x.check(1, 0, row), 7);
            for (int bank : none) {
                x.pause(20);
                DUE.answer("REFRESH of bank " + bank, x.check(4, bank, row), 0);
                DUE.answer("and again", x.check(4, bank, row), 16);
            }
        }
    }

    /** "n is not 0 .. 1000": these are. "It." is the cycle then. */
    private static void pauseInside() {
        BankScheduler x = new BankScheduler(1, 1, 1);
        int cycle = 0;
        for (int n : new int[] {0, 1, 2, 999, 1000, 1000, 0}) {
            cycle += n;
            DUE.answer("pause(" + n + ")", x.pause(n), cycle);
        }
    }

    /** Of pause(): "IllegalArgument: n is not 0 .. 1000" */
    private static void pauseOutside() {
        for (Twins twins : all()) {
            for (int n : new int[] {-1, 1001, -1000, LOW, HIGH}) {
                twins.refused("pause(" + n + ")", Due.ARGUMENT, x -> x.pause(n));
            }
            twins.areTheSame("behind pause() outside");
        }
    }
}
