/** What the controller gives in a cycle: refreshing, hits and ways, and which are looked at. */
public final class CycleTest {
    private static final Due DUE = new Due("CycleTest");

    public static void main(String[] args) {
        refreshesByItself();
        refreshingClosesFirst();
        refreshingTakesWhatIsAllowed();
        refreshingLeavesRequests();
        refreshingGoesBeforeAHit();
        hitGoesBeforeAnOlderWay();
        firstHitIsTheOldest();
        hitWaitsForOlderOfTheWord();
        hitThatIsNotAllowedIsPassedOver();
        wayOpensForEachBank();
        wayIsTheFirst();
        wayLooksAtTheOldestOfABank();
        wayLeavesAWantedRow();
        impatientOneIsAlone();
        impatientOneClosesAWantedRow();
        impatienceStartsInItsCycle();
        impatientOneKeepsItsRow();
        impatienceYieldsToRefreshing();
        refreshingMayStarve();
        refreshingStartsInItsCycle();
        patienceEndsInItsCycle();
        opensByEveryTime();
        closesByEveryTime();
        accessesByEveryTime();
        refreshesByEveryTime();
        DUE.end();
    }

    private static void ticks(String what, BankScheduler x, int... want) {
        for (int i = 0; i < want.length; i++) {
            int cycle = x.figure(0);
            DUE.answer(what + ", cycle " + cycle, x.tick(), want[i]);
        }
    }

    private static void refreshesByItself() {
        for (int every : new int[] {20, 60, 200}) {
            BankScheduler x = new BankScheduler(1, 1, 1);
            x.time(10, every);
            for (int k = 1; k < 5; k++) {
                DUE.answer("nothing until then", x.run(every - (k == 1 ? 0 : 1)), 0);
                ticks("refresh", x, 5000);
                DUE.answer("its cycle", x.figure(8), k * every);
            }
        }
    }

    private static void refreshingClosesFirst() {
        BankScheduler x = new BankScheduler(8, 12, 1000);
        for (int bank : new int[] {6, 1, 3}) {
            x.read(bank, bank, 0);
        }
        DUE.answer("three OPENs and READs", x.run(60), 6);
        ticks("closes in the banks' order", x, 2100, 2300, 2600, 0, 0, 5000, 0);
        DUE.answer("last REFRESH", x.figure(8), 65);
        x.run(59 + 65 - x.figure(0));
        ticks("behind the last REFRESH, not its due", x, 0, 5000);
    }

    private static void refreshingTakesWhatIsAllowed() {
        BankScheduler x = new BankScheduler(3, 12, 1000);
        x.time(10, 20);
        x.read(1, 0, 0);
        x.read(2, 0, 0);
        x.run(16);
        x.write(0, 0, 0, 1);
        // bank 0 is written in 19 and may be closed in 24
        ticks("first that is allowed", x, 1000, 0, 0, 4000, 2100, 2200, 0, 0, 2000, 0, 0, 5000);
    }

    private static void refreshingLeavesRequests() {
        BankScheduler x = new BankScheduler(2, 12, 1000);
        x.run(60);
        x.read(0, 5, 0);
        x.read(1, 6, 0);
        ticks("refresh first", x, 5000, 0, 0, 0, 0, 0, 0, 0, 1005, 0, 1106, 3005, 0, 3106);
        DUE.answer("its cycle", x.figure(8), 60);
    }

    private static void refreshingGoesBeforeAHit() {
        BankScheduler x = new BankScheduler(2, 12, 1000);
        x.read(0, 5, 0);
        x.run(60);
        x.read(0, 5, 1);
        x.read(1, 1, 1);
        ticks("no hit, no way", x, 2000, 0, 0, 5000);
        DUE.answer("both wait", x.figure(6), 2);
        x.run(7);
        ticks("then they go on", x, 1005, 0, 1101, 3005);
    }

    private static void hitGoesBeforeAnOlderWay() {
        BankScheduler x = new BankScheduler(2, 12, 1000);
        x.read(0, 5, 0);
        x.run(4);
        x.run(6);
        x.read(0, 6, 0);
        x.read(1, 6, 0);
        x.read(0, 5, 1);
        ticks("hit, then CLOSE, then OPEN", x, 3005, 1106, 2000, 0, 3106, 1006, 0, 0, 3006);
        DUE.answer("none waits", x.figure(6), 0);
    }

    private static void firstHitIsTheOldest() {
        BankScheduler x = new BankScheduler(2, 12, 1000);
        x.time(6, 1);
        x.read(1, 5, 0);
        x.read(0, 5, 0);
        x.run(10);
        x.write(1, 5, 3, 1);
        x.write(0, 5, 3, 2);
        x.read(1, 5, 4);
        x.read(0, 5, 4);
        ticks("as they came", x, 4105, 4005, 3105, 3005);
    }

    private static void hitWaitsForOlderOfTheWord() {
        BankScheduler x = new BankScheduler(1, 12, 1000);
        x.read(0, 1, 1);
        x.write(0, 1, 1, 8);
        x.read(0, 1, 1);
        x.write(0, 1, 1, 9);
        x.run(30);
        DUE.answer("before all writes", x.result(0), 0);
        DUE.answer("between them", x.result(2), 8);
        DUE.answer("behind them", x.word(0, 1, 1), 9);
    }

    private static void hitThatIsNotAllowedIsPassedOver() {
        BankScheduler x = new BankScheduler(2, 12, 1000);
        x.read(1, 5, 0);
        x.run(2);
        x.read(0, 5, 0);
        ticks("OPEN of the younger's bank", x, 1005, 3105);
        x.run(6);
        x.read(0, 7, 0);
        x.read(1, 5, 3);
        x.read(1, 4, 3);
        ticks("hit of the younger, then CLOSEs", x, 3105, 2000, 2100, 0, 1007, 0, 1104, 3007, 0, 3104);
        BankScheduler y = new BankScheduler(2, 12, 1000);
        y.read(1, 5, 0);
        y.run(12);
        y.read(0, 1, 0);
        ticks("OPEN", y, 1001);
        y.read(1, 5, 1);
        ticks("the younger, as the older is too soon", y, 3105, 0, 3001);
    }

    private static void wayOpensForEachBank() {
        BankScheduler x = new BankScheduler(8, 12, 1000);
        for (int bank = 7; bank >= 2; bank--) {
            x.read(bank, bank, 0);
        }
        // OPENs are 2 behind one another, a fifth 12 behind the first
        ticks("OPENs and READs", x, 1707, 0, 1606, 3707, 1505, 3606, 1404, 3505, 0, 3404, 0, 0, 1303, 0,
                1202, 3303, 0, 3202);
    }

    private static void wayIsTheFirst() {
        BankScheduler x = new BankScheduler(3, 12, 1000);
        x.read(2, 0, 0);
        x.read(1, 0, 0);
        x.run(30);
        x.read(0, 3, 0);
        x.read(2, 1, 0);
        x.read(1, 1, 0);
        ticks("by the requests' order", x, 1003, 2200, 2100, 3003, 1201, 0, 1101, 3201, 0, 3101);
    }

    private static void wayLooksAtTheOldestOfABank() {
        BankScheduler x = new BankScheduler(1, 12, 1000);
        x.read(0, 3, 0);
        x.read(0, 4, 0);
        ticks("no CLOSE of a row before its READ", x, 1003, 0, 0, 3003, 0, 0, 2000, 0, 0, 1004, 0, 0, 3004);
        BankScheduler y = new BankScheduler(1, 12, 1000);
        y.time(0, 20);
        y.read(0, 3, 0);
        y.read(0, 4, 0);
        y.tick();
        DUE.answer("the younger one does not close it", y.run(19), 0);
        ticks("READ", y, 3003);
    }

    private static void wayLeavesAWantedRow() {
        BankScheduler x = new BankScheduler(2, 12, 1000);
        x.time(6, 9);
        x.read(0, 3, 0);
        x.run(4);
        x.read(0, 4, 0);
        x.read(0, 3, 1);
        x.read(1, 4, 0);
        ticks("row 3 stays open for the third", x, 1104, 0, 0, 0, 0, 0, 0, 0, 3003, 0, 2000, 0, 0, 1004);
        BankScheduler y = new BankScheduler(2, 12, 1000);
        y.read(0, 3, 0);
        y.run(4);
        y.read(0, 4, 0);
        y.read(1, 3, 0);
        ticks("row 3 of another bank is not wanted", y, 1103, 0, 2000, 3103);
    }

    /** With a time 0 of 10 the oldest, of bank 0, waits from 13 to 23 for its READ. */
    private static BankScheduler withOneThatWaits(int patience) {
        BankScheduler x = new BankScheduler(2, 12, patience);
        x.time(0, 10);
        x.read(1, 0, 0);
        x.run(12);
        x.read(0, 5, 0);
        x.read(1, 0, 1);
        ticks("hit and way", x, 3100, 1005);
        x.read(1, 0, 2);
        ticks("a hit before the oldest is impatient", x, 3100);
        x.read(1, 0, 3);
        ticks("too soon for a hit", x, 0);
        return x;
    }

    private static void impatientOneIsAlone() {
        BankScheduler x = withOneThatWaits(4);
        ticks("no hit of another bank", x, 0, 0, 0, 0, 0, 0, 0, 3005, 0, 3100);
        DUE.answer("given late", x.figure(7), 3);
    }

    private static void impatienceStartsInItsCycle() {
        BankScheduler x = withOneThatWaits(5);
        ticks("a hit in its last patient cycle", x, 3100);
        x.read(1, 0, 4);
        x.read(1, 0, 5);
        ticks("and no more", x, 0, 0, 0, 0, 0, 0, 3005, 0, 3100, 0, 3100);
        DUE.answer("given late", x.figure(7), 4);
    }

    private static void impatientOneClosesAWantedRow() {
        BankScheduler x = new BankScheduler(1, 12, 4);
        x.read(0, 3, 0);
        x.run(10);
        x.read(0, 4, 0);
        x.read(0, 3, 1);
        x.read(0, 3, 2);
        x.read(0, 3, 3);
        ticks("hits, but not for ever", x, 3003, 0, 3003, 0, 2000, 0, 0, 1004, 0, 0, 3004);
        DUE.answer("the last of them waits", x.waiting(0), 4);
        ticks("then the last", x, 0, 0, 2000, 0, 0, 1003, 0, 0, 3003);
        DUE.answer("given late", x.figure(7), 2);
    }

    private static void impatientOneKeepsItsRow() {
        BankScheduler x = new BankScheduler(1, 12, 1);
        x.time(0, 20);
        x.time(2, 1);
        x.read(0, 3, 0);
        x.read(0, 4, 0);
        ticks("OPEN", x, 1003);
        DUE.answer("its own row stays open", x.run(19), 0);
        DUE.answer("still open", x.open(0), 3);
    }

    private static void impatienceYieldsToRefreshing() {
        BankScheduler x = new BankScheduler(2, 12, 1);
        x.read(0, 1, 0);
        x.run(59);
        x.read(0, 1, 1);
        x.read(1, 6, 0);
        x.read(0, 1, 1);
        ticks("patient yet, and a hit", x, 3001);
        ticks("refreshing", x, 0, 2000, 0, 0, 5000, 0, 0, 0, 0, 0, 0, 0);
        ticks("one by one", x, 1106, 0, 0, 3106, 1001, 0, 0, 3001);
    }

    private static void refreshingMayStarve() {
        BankScheduler x = new BankScheduler(1, 12, 1);
        x.time(10, 20);
        x.time(9, 20);
        x.run(20);
        x.read(0, 0, 0);
        DUE.answer("nothing but REFRESH", x.run(2000), 100);
        DUE.answer("by its count", x.figure(5), 100);
        DUE.answer("the request waits", x.figure(6), 1);
    }

    /** "when T is time 10 or more behind": a cycle before it there is none. */
    private static void refreshingStartsInItsCycle() {
        for (int every : new int[] {20, 21, 59, 60, 61, 199, 200}) {
            BankScheduler x = new BankScheduler(1, 2, 1000);
            x.time(6, 1);
            x.time(10, every);
            x.read(0, 1, 0);
            x.run(every - 1);
            x.read(0, 1, 1);
            x.read(0, 1, 2);
            ticks("a hit in the last cycle before", x, 3001);
            ticks("no hit any more", x, 0, 2000, 0, 0, 5000);
            DUE.answer("the last REFRESH", x.figure(8), every + 4);
            DUE.answer("the other waits", x.figure(6), 1);
            // OPEN is 8 behind the REFRESH, READ 3 behind that
            DUE.answer("until there is time", x.run(every - 2), 2);
            ticks("and nothing in the last cycle before", x, 0);
            ticks("the next REFRESH is due", x, 2000, 0, 0, 5000);
        }
    }

    /** "or just the oldest one, when T is A or more behind the cycle in which it came" */
    private static void patienceEndsInItsCycle() {
        for (int patience : new int[] {1, 2, 3, 4, 5, 10, 19, 20, 21, 22, 50, 100, 130}) {
            BankScheduler x = new BankScheduler(2, 12, patience);
            x.time(0, 20);
            x.time(6, 1);
            x.time(10, 200);
            x.write(1, 0, 0, 1);
            x.run(21);
            x.read(0, 5, 0);
            for (int behind = 0; behind < patience; behind++) {
                x.write(1, 0, 0, 1);
                ticks("a hit, patience " + patience, x, 4100);
            }
            x.write(1, 0, 0, 1);
            ticks("no more, patience " + patience, x, 1005);
            DUE.answer("nor until it is given", x.run(19), 0);
            ticks("READ, patience " + patience, x, 3005);
            // the first of all was given 20 behind its cycle
            DUE.answer("late, patience " + patience, x.figure(7), patience <= 20 ? 2 : 1);
            ticks("then the other", x, 4100);
        }
    }

    /** What is given from the present cycle on, as "cycle:answer". */
    private static String given(BankScheduler x, int cycles) {
        StringBuilder text = new StringBuilder();
        int cycle = x.figure(0);
        for (int i = 0; i < cycles; i++) {
            int answer = x.tick();
            if (answer != 0) {
                text.append(text.length() == 0 ? "" : " ").append(cycle + i).append(':').append(answer);
            }
        }
        return text.toString();
    }

    private static void gives(String what, BankScheduler x, int cycles, String want) {
        String got = given(x, cycles);
        DUE.holds(what + " gives " + got + ", due is " + want, got.equals(want));
    }

    /** A controller all of whose times are 1, but for one; a REFRESH is due in 200. */
    private static BankScheduler with(int which, int value) {
        BankScheduler x = new BankScheduler(8, 12, 1000);
        for (int i = 0; i < 10; i++) {
            x.time(i, 1);
        }
        x.time(10, 200);
        x.time(which, value);
        return x;
    }

    private static BankScheduler withTwoRows(int which, int value) {
        BankScheduler x = with(which, value);
        x.read(0, 0, 0);
        x.read(0, 1, 0);
        return x;
    }

    private static void opensByEveryTime() {
        for (int v = 1; v <= 20; v++) {
            gives("time 1 of " + v, withTwoRows(1, v), 50,
                    "0:1000 1:3000 2:2000 " + (2 + v) + ":1001 " + (3 + v) + ":3001");
            int behindOpen = Math.max(3, v);
            gives("time 3 of " + v, withTwoRows(3, v), 50,
                    "0:1000 1:3000 2:2000 " + behindOpen + ":1001 " + (behindOpen + 1) + ":3001");
            BankScheduler others = with(7, v);
            others.time(0, 20);
            others.read(0, 0, 0);
            others.read(1, 0, 0);
            // in cycle 20 a hit goes first
            int other = v == 20 ? 21 : v;
            String way = other + ":1100";
            gives("time 7 of " + v, others, 50, "0:1000 "
                    + (v == 20 ? "20:3000 " + way : way + " 20:3000") + " " + (other + 20) + ":3100");
            BankScheduler four = with(8, v);
            four.time(0, 20);
            for (int bank = 0; bank < 5; bank++) {
                four.read(bank, 0, 0);
            }
            gives("time 8 of " + v, four, v == 20 ? 20 : Math.max(4, v) + 1,
                    "0:1000 1:1100 2:1200 3:1300" + (v == 20 ? "" : " " + Math.max(4, v) + ":1400"));
        }
    }

    private static void closesByEveryTime() {
        for (int v = 1; v <= 20; v++) {
            int close = Math.max(2, v);
            gives("time 2 of " + v, withTwoRows(2, v), 50, "0:1000 1:3000 " + close + ":2000 "
                    + (close + 1) + ":1001 " + (close + 2) + ":3001");
            gives("time 5 of " + v, withTwoRows(5, v), 50, "0:1000 1:3000 " + (1 + v) + ":2000 "
                    + (2 + v) + ":1001 " + (3 + v) + ":3001");
            BankScheduler written = with(4, v);
            written.write(0, 0, 0, 1);
            written.read(0, 1, 0);
            gives("time 4 of " + v, written, 50, "0:1000 1:4000 " + (1 + v) + ":2000 "
                    + (2 + v) + ":1001 " + (3 + v) + ":3001");
        }
    }

    private static void accessesByEveryTime() {
        for (int v = 1; v <= 20; v++) {
            BankScheduler opened = with(0, v);
            opened.read(0, 0, 0);
            gives("time 0 of " + v, opened, 50, "0:1000 " + v + ":3000");
            BankScheduler two = with(6, v);
            two.read(0, 0, 0);
            two.write(0, 0, 1, 1);
            two.write(0, 0, 2, 1);
            two.read(0, 0, 1);
            gives("time 6 of " + v, two, 80, "0:1000 1:3000 " + (1 + v) + ":4000 " + (1 + 2 * v)
                    + ":4000 " + (1 + 3 * v) + ":3000");
        }
    }

    private static void refreshesByEveryTime() {
        for (int v = 1; v <= 20; v++) {
            BankScheduler behind = with(9, v);
            behind.run(200);
            behind.read(0, 0, 0);
            gives("time 9 of " + v, behind, 50,
                    "200:5000 " + (200 + v) + ":1000 " + (201 + v) + ":3000");
            BankScheduler closed = with(1, v);
            closed.read(0, 0, 0);
            closed.run(200);
            gives("time 1 of " + v + " for REFRESH", closed, 50, "200:2000 " + (200 + v) + ":5000");
            // it is opened in the last cycle before REFRESHING, and then waits in vain
            BankScheduler open = with(2, v);
            open.run(199);
            open.read(0, 0, 0);
            gives("time 2 of " + v + " for REFRESH", open, v + 2,
                    "199:1000 " + (199 + v) + ":2000 " + (200 + v) + ":5000");
        }
    }
}
