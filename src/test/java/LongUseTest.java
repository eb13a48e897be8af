/** "An object is used for at most 512 calls after it has been made": all of them, at their most. */
public final class LongUseTest {
    private static final int CALLS = 512;
    private static final Due DUE = new Due("LongUseTest");

    public static void main(String[] args) {
        longestRuns();
        longestPauses();
        mostTicks();
        mostRequests();
        mostRefusals();
        mostChecks();
        DUE.end();
    }

    /** REFRESHes in 60, 120, .., as no bank is open. */
    private static void longestRuns() {
        int[][] figures = {{0, 1_022_000}, {5, 17_033}, {8, 1_021_980}};
        for (int[] pair : figures) {
            BankScheduler x = new BankScheduler(8, 12, 1000);
            int given = 0;
            for (int call = 1; call < CALLS; call++) {
                given += x.run(2000);
            }
            DUE.answer("all that was given", given, 17_033);
            DUE.answer("figure(" + pair[0] + ") by the last call", x.figure(pair[0]), pair[1]);
        }
    }

    private static void longestPauses() {
        BankScheduler x = new BankScheduler(1, 1, 1);
        for (int call = 1; call <= CALLS; call++) {
            DUE.answer("pause", x.pause(1000), 1000 * call);
        }
        BankScheduler y = new BankScheduler(1, 1, 1);
        DUE.answer("OPEN", y.check(0, 0, 9), 0);
        for (int call = 0; call < 509; call++) {
            y.pause(1000);
        }
        DUE.answer("READ long behind it", y.check(2, 0, 9), 0);
        DUE.answer("CLOSE too soon behind that", y.check(1, 0, 9), 10);
    }

    private static void mostTicks() {
        BankScheduler x = new BankScheduler(1, 1, 1);
        x.time(10, 20);
        for (int cycle = 0; cycle < CALLS - 1; cycle++) {
            DUE.answer("cycle " + cycle, x.tick(), cycle > 0 && cycle % 20 == 0 ? 5000 : 0);
        }
    }

    /** Twelve at a time, and a run: 468 requests in 507 calls. */
    private static void mostRequests() {
        BankScheduler x = new BankScheduler(1, 12, 1000);
        for (int round = 0; round < 39; round++) {
            for (int i = 0; i < 12; i++) {
                int number = 12 * round + i;
                int came = i % 2 == 0 ? x.write(0, 0, 0, 7000 + number) : x.read(0, 0, 0);
                DUE.answer("number", came, number);
            }
            x.run(100);
        }
        DUE.answer("the last read", x.result(467), 7466);
        DUE.answer("the last write", x.result(466), 7466);
        DUE.answer("31 came behind it", x.result(436), 7436);
        DUE.refused("32 came behind it", Due.UNSUPPORTED, () -> x.result(435));
        DUE.answer("none waits", x.figure(6), 0);
    }

    private static void mostRefusals() {
        BankScheduler x = new BankScheduler(1, 1, 1);
        DUE.answer("the only place", x.read(0, 0, 0), 0);
        for (int call = 0; call < 509; call++) {
            DUE.refused("no place", Due.STATE, () -> x.read(0, 0, 0));
        }
        x.run(4);
        DUE.answer("the next number", x.read(0, 0, 0), 1);
    }

    /** With the least times a bank is opened and closed in every second cycle. */
    private static void mostChecks() {
        BankScheduler x = new BankScheduler(1, 1, 1);
        for (int which = 0; which < 10; which++) {
            x.time(which, 1);
        }
        for (int call = 10; call < CALLS; call++) {
            DUE.answer("OPEN or CLOSE", x.check(call % 2, 0, call % 16), 0);
        }
    }
}
