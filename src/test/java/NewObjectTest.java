/** Promise 1 and the ranges of "Terms": how many banks, rows, words, places, and how much patience. */
public final class NewObjectTest {
    private static final int LOW = Due.LOW;
    private static final int HIGH = Due.HIGH;
    private static final Due DUE = new Due("NewObjectTest");

    public static void main(String[] args) {
        banksAreAtLeastOneAndAtMostEight();
        placesAreAtLeastOneAndAtMostTwelve();
        patienceIsAtLeastOne();
        patienceIsAtMostThousand();
        patienceIsAsItIsToldBetween();
        allThreeAtOnce();
        cycleIsZero();
        banksAreClosedAtFirst();
        noCommandWasAtFirst();
        wordsAreZeroAtFirst();
        eachWordIsItsOwn();
        DUE.end();
    }

    /** "B is banks, but at least 1 and at most 8" */
    private static void banksAreAtLeastOneAndAtMostEight() {
        int[][] banks = {
            {LOW, 1}, {-1, 1}, {0, 1}, {1, 1}, {2, 2}, {3, 3}, {4, 4}, {5, 5}, {6, 6}, {7, 7}, {8, 8},
            {9, 8}, {16, 8}, {HIGH, 8}};
        for (int[] pair : banks) {
            hasBanks("banks " + pair[0], new BankScheduler(pair[0], 1, 1), pair[1]);
        }
    }

    /** "There are B BANKS, 0 .. B - 1": for each method that is told a bank. */
    private static void hasBanks(String what, BankScheduler x, int banks) {
        for (int bank = 0; bank < banks; bank++) {
            DUE.answer(what + ": open(" + bank + ")", x.open(bank), -1);
            DUE.answer(what + ": word of " + bank, x.word(bank, 15, 7), 0);
        }
        for (int none : new int[] {-1, banks, LOW, HIGH}) {
            DUE.refused(what + ": open(" + none + ")", Due.INDEX, () -> x.open(none));
            DUE.refused(what + ": word of " + none, Due.INDEX, () -> x.word(none, 0, 0));
            DUE.refused(what + ": read of " + none, Due.INDEX, () -> x.read(none, 0, 0));
            DUE.refused(what + ": write of " + none, Due.INDEX, () -> x.write(none, 0, 0, 1));
            for (int command = 0; command < 4; command++) {
                int c = command;
                DUE.refused(what + ": check of " + none, Due.INDEX, () -> x.check(c, none, 0));
            }
        }
        for (int bank = 0; bank < banks; bank++) {
            x.pause(20);
            DUE.answer(what + ": check of " + bank, x.check(0, bank, 15), 0);
        }
        DUE.answer(what + ": write of the last", x.write(banks - 1, 15, 7, 5), 0);
        DUE.answer(what + ": OPEN of the last", x.tick(), 1015 + 100 * (banks - 1));
        x.run(3);
        DUE.answer(what + ": read of the last", x.read(banks - 1, 15, 7), 1);
        DUE.answer(what + ": WRITE of the last", x.word(banks - 1, 15, 7), 5);
    }

    /** "Q is places, but at least 1 and at most 12" */
    private static void placesAreAtLeastOneAndAtMostTwelve() {
        int[][] places = {
            {LOW, 1}, {-1, 1}, {0, 1}, {1, 1}, {2, 2}, {3, 3}, {4, 4}, {5, 5}, {6, 6}, {7, 7}, {8, 8},
            {9, 9}, {10, 10}, {11, 11}, {12, 12}, {13, 12}, {100, 12}, {HIGH, 12}};
        for (int[] pair : places) {
            hasPlaces("places " + pair[0], new BankScheduler(1, pair[0], 1), pair[1]);
        }
    }

    /** "at most Q WAIT" */
    private static void hasPlaces(String what, BankScheduler x, int places) {
        for (int i = 0; i < places; i++) {
            DUE.answer(what + ": a place", i % 2 == 0 ? x.read(0, 0, 0) : x.write(0, 0, 0, i), i);
        }
        DUE.refused(what + ": no place to read", Due.STATE, () -> x.read(0, 0, 0));
        DUE.refused(what + ": no place to write", Due.STATE, () -> x.write(0, 0, 0, 1));
        DUE.answer(what + ": all wait", x.figure(6), places);
        DUE.answer(what + ": until one is given", x.run(4), 2);
        DUE.answer(what + ": one place more", x.read(0, 0, 0), places);
        DUE.refused(what + ": and no other", Due.STATE, () -> x.read(0, 0, 0));
    }

    /** "A is patience, but at least 1": what is given in the cycle in which it came is not late. */
    private static void patienceIsAtLeastOne() {
        int[][] late = {{LOW, 1}, {-1, 1}, {0, 1}, {1, 1}, {2, 0}};
        for (int[] pair : late) {
            BankScheduler x = new BankScheduler(1, 2, pair[0]);
            x.time(0, 1);
            x.time(6, 1);
            x.read(0, 0, 0);
            DUE.answer("OPEN", x.tick(), 1000);
            DUE.answer("READ one behind", x.tick(), 3000);
            x.read(0, 0, 0);
            DUE.answer("READ at once", x.tick(), 3000);
            DUE.answer("late with patience " + pair[0], x.figure(7), pair[1]);
        }
        leastPatienceLooksAtAllInOneCycle();
    }

    /** With a patience of 0 the oldest one would be alone in its own cycle already. */
    private static void leastPatienceLooksAtAllInOneCycle() {
        for (int patience : new int[] {LOW, 0, 1}) {
            BankScheduler x = new BankScheduler(2, 4, patience);
            x.time(6, 1);
            x.read(0, 0, 0);
            x.run(4);
            x.read(1, 1, 0);
            x.read(0, 0, 1);
            x.read(0, 0, 2);
            DUE.answer("the hit of a younger one, patience " + patience, x.tick(), 3000);
            DUE.answer("then the oldest alone", x.tick(), 1101);
            DUE.answer("so no hit", x.run(2), 0);
            DUE.answer("its READ", x.tick(), 3101);
        }
    }

    /** "and at most 1000": request 9 is given in cycle 1000; see lateOfSlowOnes(). */
    private static void patienceIsAtMostThousand() {
        for (int patience : new int[] {999, 1000, 1001, 2000, HIGH}) {
            DUE.answer("1000 behind, patience " + patience, lateOfSlowOnes(patience, 12), 3);
        }
        DUE.answer("999 behind, patience 999", lateOfSlowOnes(999, 9), 3);
        for (int patience : new int[] {1000, 1001, HIGH}) {
            DUE.answer("999 behind, patience " + patience, lateOfSlowOnes(patience, 9), 2);
        }
    }

    /**
     * Twelve rows of one bank are wanted, and a REFRESH every 120 cycles leaves room for one READ
     * between two of them: READs in 20, 80, 160, 280, .., 160 + 7 * 120 = 1000, 1120, 1240. Those
     * from atFirst on come a cycle later than the others.
     */
    private static int lateOfSlowOnes(int patience, int atFirst) {
        BankScheduler x = new BankScheduler(1, 12, patience);
        for (int which = 0; which < 10; which++) {
            x.time(which, 20);
        }
        x.time(10, 99);
        for (int row = 0; row < 12; row++) {
            if (row == atFirst) {
                x.tick();
            }
            x.read(0, row, 0);
        }
        x.run(1000 - x.figure(0));
        DUE.answer("request 9 waits in cycle 1000", x.waiting(0), 9);
        DUE.answer("and is given in it", x.tick(), 3009);
        x.run(300);
        DUE.answer("none waits", x.figure(6), 0);
        return x.figure(7);
    }

    /** A read that came in cycle 0 and is given in cycle 3 is late with a patience of 1 .. 3. */
    private static void patienceIsAsItIsToldBetween() {
        int[][] late = {{1, 1}, {2, 1}, {3, 1}, {4, 0}, {5, 0}, {999, 0}};
        for (int[] pair : late) {
            BankScheduler x = new BankScheduler(1, 1, pair[0]);
            x.read(0, 0, 0);
            x.run(4);
            DUE.answer("late with patience " + pair[0], x.figure(7), pair[1]);
        }
    }

    private static void allThreeAtOnce() {
        hasBanks("all too small", new BankScheduler(LOW, LOW, LOW), 1);
        hasPlaces("all too small", new BankScheduler(0, 0, 0), 1);
        hasBanks("all too large", new BankScheduler(HIGH, HIGH, HIGH), 8);
        hasPlaces("all too large", new BankScheduler(9, 13, 1001), 12);
        hasBanks("few banks, many places", new BankScheduler(0, 13, 0), 1);
        hasPlaces("many banks, few places", new BankScheduler(9, 0, 0), 1);
    }

    /** "The cycle is 0." and "CYCLES are numbered from 0." */
    private static void cycleIsZero() {
        BankScheduler x = new BankScheduler(1, 1, 1);
        DUE.answer("the cycle", x.figure(0), 0);
        DUE.answer("the checker's", x.pause(0), 0);
        x.tick();
        DUE.answer("one more", x.figure(0), 1);
        DUE.answer("but not the checker's", x.pause(0), 0);
        x.check(4, 0, 0);
        DUE.answer("one more of the checker's", x.pause(0), 1);
        DUE.answer("and not the controller's", x.figure(0), 1);
    }

    /** "At first all banks are closed" */
    private static void banksAreClosedAtFirst() {
        BankScheduler x = new BankScheduler(8, 1, 1);
        for (int bank = 0; bank < 8; bank++) {
            DUE.answer("open(" + bank + ")", x.open(bank), -1);
            DUE.answer("the checker's " + bank, x.check(1, bank, 0), 7);
            DUE.answer("with no row", x.check(2, bank, 0), 11);
        }
        DUE.answer("all of the checker's", x.check(4, 0, 0), 0);
    }

    /** "and there was no command" */
    private static void noCommandWasAtFirst() {
        BankScheduler x = new BankScheduler(8, 1, 1);
        for (int what = 1; what <= 7; what++) {
            DUE.answer("figure(" + what + ")", x.figure(what), 0);
        }
        DUE.answer("the last REFRESH", x.figure(8), -1);
        for (int command : new int[] {0, 4}) {
            BankScheduler y = new BankScheduler(8, 1, 1);
            for (int which = 0; which < 10; which++) {
                y.time(which, 20);
            }
            DUE.answer("no time stands behind none, command " + command, y.check(command, 0, 0), 0);
        }
        BankScheduler z = new BankScheduler(8, 1, 1);
        for (int which = 1; which < 10; which++) {
            z.time(which, 20);
        }
        z.read(0, 0, 0);
        DUE.answer("nor the controller's: OPEN", z.tick(), 1000);
        z.run(2);
        DUE.answer("nor the controller's: READ", z.tick(), 3000);
    }

    /** "each with 16 ROWS of 8 WORDS, ints, at first 0" */
    private static void wordsAreZeroAtFirst() {
        for (int quarter = 0; quarter < 4; quarter++) {
            BankScheduler x = new BankScheduler(8, 3, 3);
            for (int place = 256 * quarter; place < 256 * (quarter + 1); place++) {
                DUE.answer("word " + place, x.word(place / 128, place / 8 % 16, place % 8), 0);
            }
        }
    }

    /** 8 * 16 * 8 words, no two of them the same. */
    private static void eachWordIsItsOwn() {
        for (int bank = 0; bank < 8; bank++) {
            BankScheduler x = new BankScheduler(8, 12, 1000);
            for (int place = 0; place < 128; place++) {
                if (place % 8 == 0) {
                    x.run(200);
                }
                x.write(bank, place / 8, place % 8, 1000 * bank + place + 1);
            }
            x.run(200);
            for (int place = 0; place < 128; place++) {
                DUE.answer("word " + place + " of " + bank,
                        x.word(bank, place / 8, place % 8), 1000 * bank + place + 1);
                DUE.answer("word " + place + " of another bank",
                        x.word((bank + 1) % 8, place / 8, place % 8), 0);
            }
        }
    }
}
