/** Promise 7, with "A request is done when T is above the cycle in which it is." */
public final class ResultTest {
    private static final int LOW = Due.LOW;
    private static final int HIGH = Due.HIGH;
    private static final Due DUE = new Due("ResultTest");

    public static void main(String[] args) {
        noneCame();
        theLastThatCame();
        writeIsDoneInItsCycle();
        readIsDoneTimeElevenLater();
        readTakesWhatTheWordHasThen();
        readOfAWordNeverWritten();
        anyIntIsWrittenAndRead();
        thirtyOneAndThirtyTwoBehindEach();
        thoseThatWaitHaveComeBehind();
        thoseRefusedHaveNotComeBehind();
        oneThatWaitsWithThirtyOneBehind();
        oneThatWaitsWithThirtyTwoBehind();
        readNotDoneWithThirtyTwoBehind();
        DUE.end();
    }

    /** "there is none such": at first there is none at all. */
    private static void noneCame() {
        BankScheduler x = new BankScheduler(1, 4, 1000);
        for (int request : new int[] {-1, 0, 1, 31, 32, LOW, HIGH}) {
            DUE.refused("none came " + request, Due.UNSUPPORTED, () -> x.result(request));
        }
        x.run(2000);
        DUE.refused("still none", Due.UNSUPPORTED, () -> x.result(0));
    }

    private static void theLastThatCame() {
        BankScheduler x = new BankScheduler(1, 12, 1000);
        for (int number = 0; number < 12; number++) {
            int n = number;
            DUE.refused("not yet " + n, Due.UNSUPPORTED, () -> x.result(n));
            x.write(0, 0, 0, 50 + n);
            DUE.refused("the last that came " + n, Due.STATE, () -> x.result(n));
            DUE.refused("the next " + n, Due.UNSUPPORTED, () -> x.result(n + 1));
            DUE.refused("the one before the first", Due.UNSUPPORTED, () -> x.result(-1));
        }
        x.run(50);
        for (int number = 0; number < 12; number++) {
            DUE.answer("done " + number, x.result(number), 50 + number);
        }
        DUE.refused("the next", Due.UNSUPPORTED, () -> x.result(12));
    }

    /** "A write that is given .. is DONE in that cycle" */
    private static void writeIsDoneInItsCycle() {
        for (int late : new int[] {1, 20}) {
            BankScheduler x = new BankScheduler(1, 4, 1000);
            x.time(11, late);
            x.write(0, 0, 0, 6);
            for (int cycle = 0; cycle < 3; cycle++) {
                DUE.refused("it waits", Due.STATE, () -> x.result(0));
                x.tick();
            }
            DUE.refused("it waits for the last cycle", Due.STATE, () -> x.result(0));
            DUE.answer("WRITE", x.tick(), 4000);
            DUE.answer("done", x.result(0), 6);
        }
    }

    /** "a read that is given .. is done time 11 later" */
    private static void readIsDoneTimeElevenLater() {
        for (int late = 1; late <= 20; late++) {
            BankScheduler x = new BankScheduler(1, 4, 1000);
            x.time(11, late);
            x.write(0, 0, 0, 41);
            x.read(0, 0, 0);
            DUE.refused("not given", Due.STATE, () -> x.result(1));
            x.run(5);
            DUE.refused("still not given", Due.STATE, () -> x.result(1));
            DUE.answer("READ in cycle 5", x.tick(), 3000);
            for (int cycle = 6; cycle <= 5 + late; cycle++) {
                DUE.refused("not done, cycle " + cycle, Due.STATE, () -> x.result(1));
                x.tick();
            }
            DUE.answer("done in cycle " + (6 + late), x.result(1), 41);
        }
    }

    /** "a read that is given takes the number that the word has then" */
    private static void readTakesWhatTheWordHasThen() {
        BankScheduler x = new BankScheduler(1, 4, 1000);
        x.time(11, 20);
        x.write(0, 0, 0, 41);
        x.read(0, 0, 0);
        x.write(0, 0, 0, 42);
        x.read(0, 0, 0);
        x.run(9);
        DUE.answer("the word has changed", x.word(0, 0, 0), 42);
        x.run(40);
        DUE.answer("before the second write", x.result(1), 41);
        DUE.answer("behind it", x.result(3), 42);
        x.write(0, 0, 0, 43);
        x.run(200);
        DUE.answer("and so it stays", x.result(1), 41);
        DUE.answer("as the other does", x.result(3), 42);
    }

    private static void readOfAWordNeverWritten() {
        BankScheduler x = new BankScheduler(1, 2, 1000);
        x.write(0, 0, 0, 9);
        x.read(0, 0, 1);
        x.run(20);
        DUE.answer("the word is 0", x.result(1), 0);
    }

    private static void anyIntIsWrittenAndRead() {
        for (int number : new int[] {LOW, LOW + 1, -1, 0, 1, HIGH - 1, HIGH}) {
            BankScheduler x = new BankScheduler(1, 2, 1000);
            x.write(0, 0, 0, number);
            x.read(0, 0, 0);
            x.run(20);
            DUE.answer("wrote", x.result(0), number);
            DUE.answer("read", x.result(1), number);
            DUE.answer("has", x.word(0, 0, 0), number);
        }
    }

    /** "or 32 came behind it": 31 may, for every number, beyond twice 32 too. */
    private static void thirtyOneAndThirtyTwoBehindEach() {
        BankScheduler x = new BankScheduler(1, 1, 1000);
        for (int last = 0; last < 100; last++) {
            x.write(0, 0, 0, 1000 + last);
            int first = last - 31;
            if (first >= 0) {
                DUE.answer("31 came behind " + first, x.result(first), 1000 + first);
            }
            if (first >= 1) {
                DUE.refused("32 came behind " + (first - 1), Due.UNSUPPORTED, () -> x.result(first - 1));
            }
            x.run(80);
        }
        DUE.answer("31 came behind 68", x.result(68), 1068);
        for (int request : new int[] {0, 1, 4, 35, 36, 66, 67}) {
            DUE.refused("32 and more came behind " + request, Due.UNSUPPORTED, () -> x.result(request));
        }
    }

    private static void thoseThatWaitHaveComeBehind() {
        BankScheduler x = new BankScheduler(1, 12, 1000);
        for (int i = 0; i < 21; i++) {
            x.write(0, 0, 0, 100 + i);
            x.run(80);
        }
        for (int i = 0; i < 11; i++) {
            x.write(0, 0, 0, 200 + i);
        }
        DUE.answer("31 came behind it, 11 wait", x.result(0), 100);
        x.write(0, 0, 0, 211);
        DUE.refused("32 came behind it, 12 wait", Due.UNSUPPORTED, () -> x.result(0));
        DUE.answer("31 came behind the next", x.result(1), 101);
    }

    private static void thoseRefusedHaveNotComeBehind() {
        BankScheduler x = new BankScheduler(1, 1, 1000);
        x.write(0, 0, 0, 100);
        x.run(20);
        x.read(0, 1, 0);
        for (int i = 0; i < 40; i++) {
            DUE.refused("without a place", Due.STATE, () -> x.read(0, 0, 0));
            DUE.refused("without a word", Due.INDEX, () -> x.write(0, 0, -1, 1));
        }
        DUE.answer("one came behind it", x.result(0), 100);
    }

    /** A row is held open by hits, while an older request for another row waits. */
    private static BankScheduler withOneThatWaits(int behind) {
        BankScheduler x = new BankScheduler(1, 12, 1000);
        x.time(10, 200);
        x.time(6, 1);
        x.write(0, 0, 0, 1);
        x.run(4);
        x.write(0, 1, 0, 2);
        for (int i = 0; i < behind; i++) {
            DUE.answer("number", x.write(0, 0, i % 8, 1000 + i), i + 2);
            DUE.answer("a younger hit goes first", x.tick(), 4000);
        }
        DUE.answer("the old one waits", x.waiting(0), 1);
        return x;
    }

    private static void oneThatWaitsWithThirtyOneBehind() {
        BankScheduler x = withOneThatWaits(31);
        DUE.refused("31 came behind it, and it waits", Due.STATE, () -> x.result(1));
        x.run(30);
        DUE.answer("then it is done", x.result(1), 2);
        DUE.answer("as the last is", x.result(32), 1030);
    }

    /** Two refusals are so at once; and it must not be taken for the younger one in its place. */
    private static void oneThatWaitsWithThirtyTwoBehind() {
        for (int behind : new int[] {32, 33, 40}) {
            BankScheduler x = withOneThatWaits(behind);
            DUE.refused("32 came behind it, not done", Due.UNSUPPORTED, () -> x.result(1));
            DUE.answer("the one in whose place it would be", x.result(33), 1031);
            x.run(30);
            DUE.answer("the old one was given", x.word(0, 1, 0), 2);
            DUE.refused("32 came behind it, done", Due.UNSUPPORTED, () -> x.result(1));
            DUE.answer("and the young one is as it was", x.result(33), 1031);
        }
    }

    /** A read that is given and not done, when the 32nd comes behind it. */
    private static void readNotDoneWithThirtyTwoBehind() {
        BankScheduler x = new BankScheduler(1, 12, 1000);
        x.time(10, 200);
        x.time(6, 1);
        x.time(11, 20);
        x.write(0, 0, 0, 1);
        x.run(4);
        int read = x.read(0, 1, 0);
        for (int i = 0; i < 20; i++) {
            x.write(0, 0, 0, 5);
            x.tick();
        }
        // the last WRITE was in 23: CLOSE in 28, OPEN in 31, READ in 34
        x.run(10);
        DUE.answer("READ", x.tick(), 3001);
        for (int i = 0; i < 11; i++) {
            x.write(0, 2, 0, i);
        }
        DUE.refused("given, 31 behind it, not done", Due.STATE, () -> x.result(read));
        x.write(0, 2, 0, 11);
        DUE.refused("given, 32 behind it, not done", Due.UNSUPPORTED, () -> x.result(read));
        x.run(21);
        DUE.refused("32 behind it, done", Due.UNSUPPORTED, () -> x.result(read));
    }
}
