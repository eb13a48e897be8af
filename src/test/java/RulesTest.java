/** The sixteen rules, told by the checker: a cycle too soon, and just in time. */
public final class RulesTest {
    private static final int OPEN = 0;
    private static final int CLOSE = 1;
    private static final int READ = 2;
    private static final int WRITE = 3;
    private static final int REFRESH = 4;
    private static final Due DUE = new Due("RulesTest");

    /**
     * A rule with a time. The commands before it are given in the cycles 0, 1, ..; the one that it
     * tells of is given in the cycle `earlier`.
     */
    private record Timed(int rule, int which, int earlier, int[][] before, int[] command) {
    }

    private static final Timed[] TIMED = {
        new Timed(2, 1, 1, new int[][] {{OPEN, 0}, {CLOSE, 0}}, new int[] {OPEN, 0}),
        new Timed(3, 3, 0, new int[][] {{OPEN, 0}, {CLOSE, 0}}, new int[] {OPEN, 0}),
        new Timed(4, 7, 0, new int[][] {{OPEN, 1}}, new int[] {OPEN, 0}),
        new Timed(4, 7, 0, new int[][] {{OPEN, 0}, {CLOSE, 0}}, new int[] {OPEN, 7}),
        new Timed(5, 8, 0, new int[][] {{OPEN, 1}, {OPEN, 2}, {OPEN, 3}, {OPEN, 4}},
                new int[] {OPEN, 0}),
        new Timed(5, 8, 1, new int[][] {{OPEN, 1}, {OPEN, 2}, {OPEN, 3}, {OPEN, 4}, {OPEN, 5}},
                new int[] {OPEN, 0}),
        new Timed(5, 8, 0, new int[][] {{OPEN, 0}, {CLOSE, 0}, {OPEN, 0}, {CLOSE, 0}, {OPEN, 0},
                {CLOSE, 0}, {OPEN, 0}, {CLOSE, 0}}, new int[] {OPEN, 0}),
        new Timed(6, 9, 0, new int[][] {{REFRESH, 0}}, new int[] {OPEN, 0}),
        new Timed(6, 9, 1, new int[][] {{REFRESH, 0}, {REFRESH, 0}}, new int[] {OPEN, 7}),
        new Timed(8, 2, 0, new int[][] {{OPEN, 0}}, new int[] {CLOSE, 0}),
        new Timed(9, 4, 1, new int[][] {{OPEN, 0}, {WRITE, 0}}, new int[] {CLOSE, 0}),
        new Timed(9, 4, 2, new int[][] {{OPEN, 0}, {WRITE, 0}, {WRITE, 0}}, new int[] {CLOSE, 0}),
        new Timed(10, 5, 1, new int[][] {{OPEN, 0}, {READ, 0}}, new int[] {CLOSE, 0}),
        new Timed(10, 5, 2, new int[][] {{OPEN, 0}, {READ, 0}, {READ, 0}}, new int[] {CLOSE, 0}),
        new Timed(12, 0, 0, new int[][] {{OPEN, 0}}, new int[] {READ, 0}),
        new Timed(12, 0, 0, new int[][] {{OPEN, 0}}, new int[] {WRITE, 0}),
        new Timed(13, 6, 1, new int[][] {{OPEN, 0}, {READ, 0}}, new int[] {READ, 0}),
        new Timed(13, 6, 1, new int[][] {{OPEN, 0}, {READ, 0}}, new int[] {WRITE, 0}),
        new Timed(13, 6, 1, new int[][] {{OPEN, 0}, {WRITE, 0}}, new int[] {READ, 0}),
        new Timed(13, 6, 2, new int[][] {{OPEN, 0}, {OPEN, 1}, {WRITE, 1}}, new int[] {WRITE, 0}),
        new Timed(13, 6, 2, new int[][] {{OPEN, 0}, {OPEN, 1}, {READ, 1}}, new int[] {READ, 0}),
        new Timed(15, 1, 1, new int[][] {{OPEN, 0}, {CLOSE, 0}}, new int[] {REFRESH, 0}),
        new Timed(15, 1, 3, new int[][] {{OPEN, 0}, {OPEN, 7}, {CLOSE, 0}, {CLOSE, 7}},
                new int[] {REFRESH, 0}),
        new Timed(16, 9, 0, new int[][] {{REFRESH, 0}}, new int[] {REFRESH, 0}),
    };

    /** The same, where other commands were given since; for some of these a time is set later. */
    private static final Timed[] TIMED_WITH_OTHERS_SINCE = {
        new Timed(2, 1, 1, new int[][] {{OPEN, 0}, {CLOSE, 0}, {OPEN, 1}, {WRITE, 1}, {READ, 1},
                {CLOSE, 1}, {REFRESH, 0}}, new int[] {OPEN, 0}),
        new Timed(3, 3, 0, new int[][] {{OPEN, 0}, {WRITE, 0}, {READ, 0}, {CLOSE, 0}, {REFRESH, 0},
                {OPEN, 1}, {CLOSE, 1}}, new int[] {OPEN, 0}),
        new Timed(4, 7, 0, new int[][] {{OPEN, 1}, {WRITE, 1}, {READ, 1}, {CLOSE, 1}, {REFRESH, 0}},
                new int[] {OPEN, 0}),
        new Timed(4, 7, 0, new int[][] {{OPEN, 1}, {OPEN, 0}, {CLOSE, 0}}, new int[] {OPEN, 0}),
        new Timed(4, 7, 1, new int[][] {{OPEN, 1}, {OPEN, 2}}, new int[] {OPEN, 0}),
        new Timed(4, 7, 1, new int[][] {{OPEN, 2}, {OPEN, 1}}, new int[] {OPEN, 0}),
        new Timed(5, 8, 0, new int[][] {{OPEN, 1}, {OPEN, 2}, {OPEN, 3}, {OPEN, 4}, {READ, 1},
                {WRITE, 2}, {CLOSE, 1}, {CLOSE, 2}, {CLOSE, 3}, {CLOSE, 4}, {REFRESH, 0}},
                new int[] {OPEN, 0}),
        new Timed(6, 9, 0, new int[][] {{REFRESH, 0}, {OPEN, 1}, {READ, 1}, {WRITE, 1}, {CLOSE, 1}},
                new int[] {OPEN, 0}),
        new Timed(8, 2, 0, new int[][] {{OPEN, 0}, {READ, 0}, {WRITE, 0}, {OPEN, 1}, {CLOSE, 1}},
                new int[] {CLOSE, 0}),
        new Timed(9, 4, 1, new int[][] {{OPEN, 0}, {WRITE, 0}, {READ, 0}, {OPEN, 1}, {WRITE, 1},
                {CLOSE, 1}}, new int[] {CLOSE, 0}),
        new Timed(9, 4, 1, new int[][] {{OPEN, 0}, {WRITE, 0}, {CLOSE, 0}, {REFRESH, 0}, {OPEN, 0}},
                new int[] {CLOSE, 0}),
        new Timed(10, 5, 1, new int[][] {{OPEN, 0}, {READ, 0}, {WRITE, 0}, {OPEN, 1}, {READ, 1},
                {CLOSE, 1}}, new int[] {CLOSE, 0}),
        new Timed(10, 5, 1, new int[][] {{OPEN, 0}, {READ, 0}, {CLOSE, 0}, {REFRESH, 0}, {OPEN, 0}},
                new int[] {CLOSE, 0}),
        new Timed(12, 0, 0, new int[][] {{OPEN, 0}, {OPEN, 1}, {READ, 1}, {WRITE, 0}, {CLOSE, 1}},
                new int[] {READ, 0}),
        new Timed(13, 6, 1, new int[][] {{OPEN, 0}, {READ, 0}, {CLOSE, 0}, {REFRESH, 0}, {OPEN, 0}},
                new int[] {WRITE, 0}),
        new Timed(13, 6, 1, new int[][] {{OPEN, 0}, {WRITE, 0}, {CLOSE, 0}, {REFRESH, 0}, {OPEN, 1}},
                new int[] {READ, 1}),
        new Timed(15, 1, 1, new int[][] {{OPEN, 0}, {CLOSE, 0}, {REFRESH, 0}}, new int[] {REFRESH, 0}),
        new Timed(16, 9, 0, new int[][] {{REFRESH, 0}, {OPEN, 1}, {READ, 1}, {CLOSE, 1}},
                new int[] {REFRESH, 0}),
    };

    public static void main(String[] args) {
        rule1();
        rule2();
        rule3();
        rule4();
        rule5();
        rule6();
        rule7();
        rule8();
        rule9();
        rule10();
        rule11();
        rule12();
        rule13();
        rule14();
        rule15();
        rule16();
        everyValueOfEveryTime();
        noTimeIsBehindNoCommand();
        commandsOfOthersDoNotCount();
        orderOfOpen();
        orderOfClose();
        orderOfAccess();
        orderOfRefresh();
        refusedOnesAreNotGiven();
        firstValuesOfTheTimes();
        timesAreThoseAtTheCall();
        DUE.end();
    }

    /** A checker all of whose times are 1, but for one. */
    private static BankScheduler with(int which, int value) {
        BankScheduler x = new BankScheduler(8, 1, 1);
        for (int i = 0; i < 10; i++) {
            x.time(i, 1);
        }
        x.time(which, value);
        return x;
    }

    private static void at(BankScheduler x, int cycle, int command, int bank, int row, int want) {
        x.pause(cycle - x.pause(0));
        String what = "in cycle " + cycle + " check(" + command + ", " + bank + ", " + row + ")";
        DUE.answer(what, x.check(command, bank, row), want);
    }

    private static void rule1() {
        BankScheduler x = with(0, 1);
        at(x, 0, OPEN, 0, 5, 0);
        at(x, 500, OPEN, 0, 6, 1);
        at(x, 501, OPEN, 0, 5, 1);
        at(x, 502, CLOSE, 0, 0, 0);
        at(x, 503, OPEN, 0, 5, 0);
    }

    private static void rule2() {
        BankScheduler x = with(1, 20);
        at(x, 0, OPEN, 0, 0, 0);
        at(x, 1, OPEN, 1, 0, 0);
        at(x, 2, CLOSE, 1, 0, 0);
        at(x, 7, CLOSE, 0, 0, 0);
        at(x, 21, OPEN, 1, 0, 2);
        at(x, 22, OPEN, 1, 0, 0);
        at(x, 26, OPEN, 0, 0, 2);
        at(x, 27, OPEN, 0, 0, 0);
    }

    private static void rule3() {
        BankScheduler x = with(3, 20);
        at(x, 5, OPEN, 0, 0, 0);
        at(x, 6, OPEN, 1, 0, 0);
        at(x, 7, CLOSE, 0, 0, 0);
        at(x, 24, OPEN, 0, 0, 3);
        at(x, 25, OPEN, 0, 0, 0);
    }

    private static void rule4() {
        BankScheduler x = with(7, 10);
        at(x, 0, OPEN, 3, 0, 0);
        at(x, 1, CLOSE, 3, 0, 0);
        at(x, 2, OPEN, 3, 0, 0);
        at(x, 11, OPEN, 0, 0, 4);
        at(x, 12, OPEN, 0, 0, 0);
        at(x, 13, CLOSE, 3, 0, 0);
        at(x, 14, CLOSE, 0, 0, 0);
        at(x, 21, OPEN, 3, 0, 4);
        at(x, 22, OPEN, 3, 0, 0);
        at(x, 31, OPEN, 7, 0, 4);
        at(x, 32, OPEN, 7, 0, 0);
    }

    private static void rule5() {
        BankScheduler x = with(8, 20);
        at(x, 0, OPEN, 0, 0, 0);
        at(x, 1, OPEN, 1, 0, 0);
        at(x, 2, CLOSE, 1, 0, 0);
        at(x, 3, OPEN, 1, 0, 0);
        at(x, 9, OPEN, 2, 0, 0);
        at(x, 19, OPEN, 3, 0, 5);
        at(x, 20, OPEN, 3, 0, 0);
        at(x, 21, OPEN, 4, 0, 0);
        at(x, 22, OPEN, 5, 0, 5);
        at(x, 23, OPEN, 5, 0, 0);
        at(x, 28, OPEN, 6, 0, 5);
        at(x, 29, OPEN, 6, 0, 0);
        at(x, 39, OPEN, 7, 0, 5);
        at(x, 40, OPEN, 7, 0, 0);
    }

    private static void rule6() {
        BankScheduler x = with(9, 20);
        at(x, 0, OPEN, 0, 0, 0);
        at(x, 1, CLOSE, 0, 0, 0);
        at(x, 2, REFRESH, 0, 0, 0);
        at(x, 21, OPEN, 0, 0, 6);
        at(x, 22, OPEN, 0, 0, 0);
        at(x, 23, OPEN, 1, 0, 0);
    }

    private static void rule7() {
        BankScheduler x = with(0, 1);
        at(x, 0, CLOSE, 0, 0, 7);
        at(x, 1, OPEN, 0, 0, 0);
        at(x, 2, CLOSE, 1, 0, 7);
        at(x, 3, CLOSE, 0, 0, 0);
        at(x, 4, CLOSE, 0, 0, 7);
    }

    private static void rule8() {
        BankScheduler x = with(2, 20);
        at(x, 0, OPEN, 0, 0, 0);
        at(x, 5, OPEN, 1, 0, 0);
        at(x, 19, CLOSE, 0, 0, 8);
        at(x, 20, CLOSE, 0, 0, 0);
        at(x, 24, CLOSE, 1, 0, 8);
        at(x, 25, CLOSE, 1, 0, 0);
    }

    private static void rule9() {
        BankScheduler x = with(4, 20);
        at(x, 0, OPEN, 0, 7, 0);
        at(x, 1, OPEN, 1, 8, 0);
        at(x, 2, WRITE, 1, 8, 0);
        at(x, 4, WRITE, 0, 7, 0);
        at(x, 5, READ, 0, 7, 0);
        at(x, 21, CLOSE, 1, 0, 9);
        at(x, 22, CLOSE, 1, 0, 0);
        at(x, 23, CLOSE, 0, 0, 9);
        at(x, 24, CLOSE, 0, 0, 0);
    }

    private static void rule10() {
        BankScheduler x = with(5, 20);
        at(x, 0, OPEN, 0, 7, 0);
        at(x, 1, OPEN, 1, 8, 0);
        at(x, 2, READ, 1, 8, 0);
        at(x, 4, READ, 0, 7, 0);
        at(x, 5, WRITE, 0, 7, 0);
        at(x, 21, CLOSE, 1, 0, 10);
        at(x, 22, CLOSE, 1, 0, 0);
        at(x, 23, CLOSE, 0, 0, 10);
        at(x, 24, CLOSE, 0, 0, 0);
    }

    private static void rule11() {
        BankScheduler x = with(0, 1);
        at(x, 0, READ, 0, 0, 11);
        at(x, 1, WRITE, 0, 0, 11);
        at(x, 2, OPEN, 0, 3, 0);
        at(x, 3, READ, 0, 4, 11);
        at(x, 4, WRITE, 0, 2, 11);
        at(x, 5, READ, 1, 3, 11);
        at(x, 6, READ, 0, 3, 0);
        at(x, 7, WRITE, 0, 3, 0);
        at(x, 8, CLOSE, 0, 3, 0);
        at(x, 9, READ, 0, 3, 11);
    }

    private static void rule12() {
        for (int command : new int[] {READ, WRITE}) {
            BankScheduler x = with(0, 20);
            at(x, 0, OPEN, 0, 3, 0);
            at(x, 7, OPEN, 1, 3, 0);
            at(x, 19, command, 0, 3, 12);
            at(x, 20, command, 0, 3, 0);
            at(x, 26, command, 1, 3, 12);
            at(x, 27, command, 1, 3, 0);
        }
    }

    private static void rule13() {
        for (int first : new int[] {READ, WRITE}) {
            for (int second : new int[] {READ, WRITE}) {
                BankScheduler x = with(6, 20);
                at(x, 0, OPEN, 0, 3, 0);
                at(x, 1, OPEN, 1, 4, 0);
                at(x, 2, first, 0, 3, 0);
                at(x, 21, second, 1, 4, 13);
                at(x, 22, second, 1, 4, 0);
                at(x, 41, first, 1, 4, 13);
                at(x, 42, first, 1, 4, 0);
            }
        }
    }

    private static void rule14() {
        for (int bank = 0; bank < 8; bank++) {
            BankScheduler x = with(0, 1);
            at(x, 0, OPEN, bank, 0, 0);
            at(x, 900, REFRESH, 0, 0, 14);
            at(x, 901, CLOSE, bank, 0, 0);
            at(x, 902, REFRESH, 0, 0, 0);
        }
    }

    private static void rule15() {
        for (int bank = 0; bank < 8; bank++) {
            BankScheduler x = with(1, 20);
            int other = (bank + 3) % 8;
            at(x, 0, OPEN, bank, 0, 0);
            at(x, 1, OPEN, other, 0, 0);
            at(x, 2, CLOSE, other, 0, 0);
            at(x, 7, CLOSE, bank, 0, 0);
            at(x, 26, REFRESH, 0, 0, 15);
            at(x, 27, REFRESH, 0, 0, 0);
        }
    }

    private static void rule16() {
        BankScheduler x = with(9, 20);
        at(x, 3, REFRESH, 0, 0, 0);
        at(x, 22, REFRESH, 0, 0, 16);
        at(x, 23, REFRESH, 0, 0, 0);
        at(x, 42, REFRESH, 0, 0, 16);
        at(x, 43, REFRESH, 0, 0, 0);
    }

    /** "at least so many cycles (a time) behind": a cycle less is too soon, for all of 1 .. 20. */
    private static void everyValueOfEveryTime() {
        for (int value = 1; value <= 20; value++) {
            for (Timed timed : TIMED) {
                justInTime(timed, value);
            }
            for (Timed timed : TIMED_WITH_OTHERS_SINCE) {
                justInTime(timed, value);
            }
        }
    }

    private static void justInTime(Timed timed, int value) {
        BankScheduler x = with(0, 1);
        int next = 0;
        for (int[] given : timed.before) {
            at(x, next, given[0], given[1], 0, 0);
            next++;
        }
        x.time(timed.which, value);
        int due = timed.earlier + value;
        if (next < due) {
            at(x, due - 1, timed.command[0], timed.command[1], 0, timed.rule);
        }
        at(x, Math.max(next, due), timed.command[0], timed.command[1], 0, 0);
    }

    /** Where there was no such command before, its time is not asked for, in early cycles too. */
    private static void noTimeIsBehindNoCommand() {
        for (int which = 0; which < 10; which++) {
            BankScheduler x = with(which, 20);
            at(x, 0, which % 2 == 0 ? OPEN : REFRESH, 0, 0, 0);
        }
        for (int which : new int[] {1, 3, 4, 5, 6, 7, 8, 9}) {
            BankScheduler x = with(which, 20);
            at(x, 0, OPEN, 0, 0, 0);
            at(x, 1, which == 5 ? WRITE : which == 4 ? READ : CLOSE, 0, 0, 0);
        }
        for (int which : new int[] {4, 5}) {
            BankScheduler x = with(which, 20);
            at(x, 0, OPEN, 0, 0, 0);
            at(x, 1, CLOSE, 0, 0, 0);
            at(x, 2, REFRESH, 0, 0, 0);
        }
    }

    /** "(if there was one)": one of another bank, of another kind or refused is none. */
    private static void commandsOfOthersDoNotCount() {
        BankScheduler rule2 = with(1, 20);
        at(rule2, 0, OPEN, 1, 0, 0);
        at(rule2, 1, CLOSE, 1, 0, 0);
        at(rule2, 2, OPEN, 0, 0, 0);
        BankScheduler rule3 = with(3, 20);
        at(rule3, 0, OPEN, 1, 0, 0);
        at(rule3, 1, OPEN, 0, 0, 0);
        BankScheduler rule4 = with(7, 20);
        at(rule4, 0, OPEN, 0, 0, 0);
        at(rule4, 1, CLOSE, 0, 0, 0);
        at(rule4, 2, OPEN, 0, 0, 0);
        BankScheduler rule5 = with(8, 20);
        at(rule5, 0, OPEN, 0, 0, 0);
        at(rule5, 1, OPEN, 0, 0, 1);
        at(rule5, 2, OPEN, 1, 0, 0);
        at(rule5, 3, OPEN, 2, 0, 0);
        at(rule5, 4, OPEN, 3, 0, 0);
        at(rule5, 5, OPEN, 4, 0, 5);
        BankScheduler rule6 = with(9, 20);
        at(rule6, 0, OPEN, 0, 0, 0);
        at(rule6, 1, REFRESH, 0, 0, 14);
        at(rule6, 2, OPEN, 1, 0, 0);
        BankScheduler rule8 = with(2, 20);
        at(rule8, 0, OPEN, 0, 0, 0);
        at(rule8, 19, OPEN, 1, 0, 0);
        at(rule8, 20, CLOSE, 0, 0, 0);
        BankScheduler rule9 = with(4, 20);
        at(rule9, 0, OPEN, 0, 0, 0);
        at(rule9, 1, OPEN, 1, 0, 0);
        at(rule9, 2, WRITE, 1, 0, 0);
        at(rule9, 3, WRITE, 0, 1, 11);
        at(rule9, 4, READ, 0, 0, 0);
        at(rule9, 5, CLOSE, 0, 0, 0);
        BankScheduler rule10 = with(5, 20);
        at(rule10, 0, OPEN, 0, 0, 0);
        at(rule10, 1, OPEN, 1, 0, 0);
        at(rule10, 2, READ, 1, 0, 0);
        at(rule10, 3, READ, 0, 1, 11);
        at(rule10, 4, WRITE, 0, 0, 0);
        at(rule10, 5, CLOSE, 0, 0, 0);
        BankScheduler rule12 = with(0, 20);
        at(rule12, 0, OPEN, 0, 0, 0);
        at(rule12, 19, OPEN, 1, 0, 0);
        at(rule12, 20, READ, 0, 0, 0);
        BankScheduler rule13 = with(6, 20);
        at(rule13, 0, OPEN, 0, 0, 0);
        at(rule13, 1, READ, 0, 1, 11);
        at(rule13, 2, WRITE, 0, 0, 0);
        BankScheduler rule15 = with(1, 20);
        at(rule15, 0, CLOSE, 0, 0, 7);
        at(rule15, 1, REFRESH, 0, 0, 0);
        BankScheduler rule16 = with(9, 20);
        at(rule16, 0, OPEN, 0, 0, 0);
        at(rule16, 1, REFRESH, 0, 0, 14);
        at(rule16, 2, CLOSE, 0, 0, 0);
        at(rule16, 3, REFRESH, 0, 0, 0);
    }

    /** Six rules are broken at once, and end one after the other. */
    private static void orderOfOpen() {
        BankScheduler x = with(0, 1);
        at(x, 0, OPEN, 1, 0, 0);
        at(x, 1, OPEN, 2, 0, 0);
        at(x, 2, OPEN, 3, 0, 0);
        at(x, 3, OPEN, 0, 0, 0);
        at(x, 4, OPEN, 0, 0, 1);
        at(x, 5, CLOSE, 1, 0, 0);
        at(x, 6, CLOSE, 2, 0, 0);
        at(x, 7, CLOSE, 3, 0, 0);
        at(x, 8, CLOSE, 0, 0, 0);
        at(x, 9, REFRESH, 0, 0, 0);
        x.time(1, 3);
        x.time(3, 10);
        x.time(7, 13);
        x.time(8, 17);
        x.time(9, 10);
        at(x, 10, OPEN, 0, 0, 2);
        at(x, 11, OPEN, 0, 0, 3);
        at(x, 12, OPEN, 0, 0, 3);
        at(x, 13, OPEN, 0, 0, 4);
        at(x, 14, OPEN, 0, 0, 4);
        at(x, 15, OPEN, 0, 0, 5);
        at(x, 16, OPEN, 0, 0, 5);
        at(x, 17, OPEN, 0, 0, 6);
        at(x, 18, OPEN, 0, 0, 6);
        at(x, 19, OPEN, 0, 0, 0);
    }

    private static void orderOfClose() {
        BankScheduler x = with(0, 1);
        at(x, 0, OPEN, 0, 0, 0);
        at(x, 1, WRITE, 0, 0, 0);
        at(x, 2, READ, 0, 0, 0);
        x.time(2, 5);
        x.time(4, 6);
        x.time(5, 7);
        at(x, 3, CLOSE, 0, 0, 8);
        at(x, 4, CLOSE, 0, 0, 8);
        at(x, 5, CLOSE, 0, 0, 9);
        at(x, 6, CLOSE, 0, 0, 9);
        at(x, 7, CLOSE, 0, 0, 10);
        at(x, 8, CLOSE, 0, 0, 10);
        at(x, 9, CLOSE, 0, 0, 0);
        at(x, 10, CLOSE, 0, 0, 7);
    }

    private static void orderOfAccess() {
        BankScheduler x = with(0, 1);
        at(x, 0, OPEN, 0, 0, 0);
        at(x, 1, OPEN, 1, 0, 0);
        at(x, 2, READ, 0, 0, 0);
        x.time(0, 4);
        x.time(6, 5);
        at(x, 3, WRITE, 1, 1, 11);
        at(x, 4, WRITE, 1, 0, 12);
        at(x, 5, WRITE, 1, 0, 13);
        at(x, 6, WRITE, 1, 0, 13);
        at(x, 7, WRITE, 1, 0, 0);
    }

    private static void orderOfRefresh() {
        BankScheduler x = with(0, 1);
        at(x, 0, REFRESH, 0, 0, 0);
        at(x, 1, OPEN, 0, 0, 0);
        at(x, 2, OPEN, 1, 0, 0);
        at(x, 3, CLOSE, 1, 0, 0);
        x.time(1, 3);
        x.time(9, 9);
        at(x, 4, REFRESH, 0, 0, 14);
        at(x, 5, CLOSE, 0, 0, 0);
        at(x, 7, REFRESH, 0, 0, 15);
        at(x, 8, REFRESH, 0, 0, 16);
        at(x, 9, REFRESH, 0, 0, 0);
    }

    private static void refusedOnesAreNotGiven() {
        BankScheduler x = with(7, 10);
        at(x, 0, OPEN, 0, 0, 0);
        at(x, 5, OPEN, 1, 0, 4);
        at(x, 6, READ, 1, 0, 11);
        at(x, 10, OPEN, 1, 9, 0);
        at(x, 11, OPEN, 1, 3, 1);
        at(x, 12, READ, 1, 9, 0);
        BankScheduler y = with(9, 10);
        at(y, 0, REFRESH, 0, 0, 0);
        at(y, 9, REFRESH, 0, 0, 16);
        at(y, 10, OPEN, 0, 0, 0);
        DUE.answer("the controller knows nothing of it", y.figure(8), -1);
    }

    private static void firstValuesOfTheTimes() {
        BankScheduler x = new BankScheduler(8, 1, 1);
        at(x, 0, OPEN, 0, 0, 0);
        at(x, 1, OPEN, 1, 0, 4);
        at(x, 2, READ, 0, 0, 12);
        at(x, 3, WRITE, 0, 0, 0);
        at(x, 4, READ, 0, 0, 13);
        at(x, 5, CLOSE, 0, 0, 8);
        at(x, 6, OPEN, 1, 0, 0);
        at(x, 7, CLOSE, 0, 0, 9);
        at(x, 8, CLOSE, 0, 0, 0);
        at(x, 9, READ, 1, 0, 0);
        at(x, 10, OPEN, 0, 0, 2);
        at(x, 11, OPEN, 0, 0, 0);
        at(x, 13, OPEN, 2, 0, 0);
        at(x, 17, READ, 1, 0, 0);
        at(x, 18, CLOSE, 1, 0, 10);
        at(x, 19, CLOSE, 1, 0, 0);
        at(x, 20, CLOSE, 2, 0, 0);
        at(x, 21, CLOSE, 0, 0, 0);
        at(x, 23, REFRESH, 0, 0, 15);
        at(x, 24, REFRESH, 0, 0, 0);
        at(x, 31, REFRESH, 0, 0, 16);
        at(x, 31 + 1, OPEN, 0, 0, 0);
        at(x, 34, OPEN, 1, 0, 0);
        at(x, 36, OPEN, 2, 0, 0);
        at(x, 38, OPEN, 3, 0, 0);
        at(x, 43, OPEN, 4, 0, 5);
        at(x, 44, OPEN, 4, 0, 0);
        BankScheduler y = new BankScheduler(8, 1, 1);
        at(y, 0, OPEN, 0, 0, 0);
        at(y, 5, CLOSE, 0, 0, 8);
        at(y, 6, CLOSE, 0, 0, 0);
        y.time(1, 1);
        at(y, 8, OPEN, 0, 0, 3);
        at(y, 9, OPEN, 0, 0, 0);
        BankScheduler z = new BankScheduler(1, 1, 1);
        at(z, 0, REFRESH, 0, 0, 0);
        at(z, 7, OPEN, 0, 0, 6);
        at(z, 8, OPEN, 0, 0, 0);
    }

    private static void timesAreThoseAtTheCall() {
        BankScheduler x = with(0, 1);
        at(x, 0, OPEN, 0, 0, 0);
        x.time(0, 20);
        at(x, 10, READ, 0, 0, 12);
        x.time(0, 11);
        at(x, 11, READ, 0, 0, 0);
    }
}
