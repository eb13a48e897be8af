/** What the controller gives in a cycle: refreshing, hits and ways, and which are looked at. */
public final class CycleTest {
    private static final Due DUE = new Due("CycleTest");

    public static void main(String[] args) {
        refreshesByItself();
        refreshingClosesFirst();
        refreshingTakesWhatIsAllowed();
        refreshingLeavesRequests();
        refreshingGoesBeforeAHit();
        hitGoesBeforeAnOlderWay();
        firstHitIsTheOldest();
        hitWaitsForOlderOfTheWord();
        hitThatIsNotAllowedIsPassedOver();
        wayOpensForEachBank();
        wayIsTheFirst();
        wayLooksAtTheOldestOfABank();
        wayLeavesAWantedRow();
        impatientOneIsAlone();
        impatientOneClosesAWantedRow();
        impatienceStartsInItsCycle();
        impatientOneKeepsItsRow();
        impatienceYieldsToRefreshing();
        refreshingMayStarve();
        DUE.end();
    }

    private static void ticks(String what, BankScheduler x, int... want) {
        for (int i = 0; i < want.length; i++) {
            int cycle = x.figure(0);
            DUE.answer(what + ", cycle " + cycle, x.tick(), want[i]);
        }
    }

    private static void refreshesByItself() {
        for (int every : new int[] {20, 60, 200}) {
            BankScheduler x = new BankScheduler(1, 1, 1);
            x.time(10, every);
            for (int k = 1; k < 5; k++) {
                DUE.answer("nothing until then", x.run(every - (k == 1 ? 0 : 1)), 0);
                ticks("refresh", x, 5000);
                DUE.answer("its cycle", x.figure(8), k * every);
            }
        }
    }

    private static void refreshingClosesFirst() {
        BankScheduler x = new BankScheduler(8, 12, 1000);
        for (int bank : new int[] {6, 1, 3}) {
            x.read(bank, bank, 0);
        }
        DUE.answer("three OPENs and READs", x.run(60), 6);
        ticks("closes in the banks' order", x, 2100, 2300, 2600, 0, 0, 5000, 0);
        DUE.answer("last REFRESH", x.figure(8), 65);
        x.run(59 + 65 - x.figure(0));
        ticks("behind the last REFRESH, not its due", x, 0, 5000);
    }

    private static void refreshingTakesWhatIsAllowed() {
        BankScheduler x = new BankScheduler(3, 12, 1000);
        x.time(10, 20);
        x.read(1, 0, 0);
        x.read(2, 0, 0);
        x.run(16);
        x.write(0, 0, 0, 1);
        // bank 0 is written in 19 and may be closed in 24
        ticks("first that is allowed", x, 1000, 0, 0, 4000, 2100, 2200, 0, 0, 2000, 0, 0, 5000);
    }

    private static void refreshingLeavesRequests() {
        BankScheduler x = new BankScheduler(2, 12, 1000);
        x.run(60);
        x.read(0, 5, 0);
        x.read(1, 6, 0);
        ticks("refresh first", x, 5000, 0, 0, 0, 0, 0, 0, 0, 1005, 0, 1106, 3005, 0, 3106);
        DUE.answer("its cycle", x.figure(8), 60);
    }

    private static void refreshingGoesBeforeAHit() {
        BankScheduler x = new BankScheduler(2, 12, 1000);
        x.read(0, 5, 0);
        x.run(60);
        x.read(0, 5, 1);
        x.read(1, 1, 1);
        ticks("no hit, no way", x, 2000, 0, 0, 5000);
        DUE.answer("both wait", x.figure(6), 2);
        x.run(7);
        ticks("then they go on", x, 1005, 0, 1101, 3005);
    }

    private static void hitGoesBeforeAnOlderWay() {
        BankScheduler x = new BankScheduler(2, 12, 1000);
        x.read(0, 5, 0);
        x.run(4);
        x.run(6);
        x.read(0, 6, 0);
        x.read(1, 6, 0);
        x.read(0, 5, 1);
        ticks("hit, then CLOSE, then OPEN", x, 3005, 1106, 2000, 0, 3106, 1006, 0, 0, 3006);
        DUE.answer("none waits", x.figure(6), 0);
    }

    private static void firstHitIsTheOldest() {
        BankScheduler x = new BankScheduler(2, 12, 1000);
        x.time(6, 1);
        x.read(1, 5, 0);
        x.read(0, 5, 0);
        x.run(10);
        x.write(1, 5, 3, 1);
        x.write(0, 5, 3, 2);
        x.read(1, 5, 4);
        x.read(0, 5, 4);
        ticks("as they came", x, 4105, 4005, 3105, 3005);
    }

    private static void hitWaitsForOlderOfTheWord() {
        BankScheduler x = new BankScheduler(1, 12, 1000);
        x.read(0, 1, 1);
        x.write(0, 1, 1, 8);
        x.read(0, 1, 1);
        x.write(0, 1, 1, 9);
        x.run(30);
        DUE.answer("before all writes", x.result(0), 0);
        DUE.answer("between them", x.result(2), 8);
        DUE.answer("behind them", x.word(0, 1, 1), 9);
    }

    private static void hitThatIsNotAllowedIsPassedOver() {
        BankScheduler x = new BankScheduler(2, 12, 1000);
        x.read(1, 5, 0);
        x.run(2);
        x.read(0, 5, 0);
        ticks("OPEN of the younger's bank", x, 1005, 3105);
        x.run(6);
        x.read(0, 7, 0);
        x.read(1, 5, 3);
        x.read(1, 4, 3);
        ticks("hit of the younger, then CLOSEs", x, 3105, 2000, 2100, 0, 1007, 0, 1104, 3007, 0, 3104);
        BankScheduler y = new BankScheduler(2, 12, 1000);
        y.read(1, 5, 0);
        y.run(12);
        y.read(0, 1, 0);
        ticks("OPEN", y, 1001);
        y.read(1, 5, 1);
        ticks("the younger, as the older is too soon", y, 3105, 0, 3001);
    }

    private static void wayOpensForEachBank() {
        BankScheduler x = new BankScheduler(8, 12, 1000);
        for (int bank = 7; bank >= 2; bank--) {
            x.read(bank, bank, 0);
        }
        // OPENs are 2 behind one another, a fifth 12 behind the first
        ticks("OPENs and READs", x, 1707, 0, 1606, 3707, 1505, 3606, 1404, 3505, 0, 3404, 0, 0, 1303, 0,
                1202, 3303, 0, 3202);
    }

    private static void wayIsTheFirst() {
        BankScheduler x = new BankScheduler(3, 12, 1000);
        x.read(2, 0, 0);
        x.read(1, 0, 0);
        x.run(30);
        x.read(0, 3, 0);
        x.read(2, 1, 0);
        x.read(1, 1, 0);
        ticks("by the requests' order", x, 1003, 2200, 2100, 3003, 1201, 0, 1101, 3201, 0, 3101);
    }

    private static void wayLooksAtTheOldestOfABank() {
        BankScheduler x = new BankScheduler(1, 12, 1000);
        x.read(0, 3, 0);
        x.read(0, 4, 0);
        ticks("no CLOSE of a row before its READ", x, 1003, 0, 0, 3003, 0, 0, 2000, 0, 0, 1004, 0, 0, 3004);
        BankScheduler y = new BankScheduler(1, 12, 1000);
        y.time(0, 20);
        y.read(0, 3, 0);
        y.read(0, 4, 0);
        y.tick();
        DUE.answer("the younger one does not close it", y.run(19), 0);
        ticks("READ", y, 3003);
    }

    private static void wayLeavesAWantedRow() {
        BankScheduler x = new BankScheduler(2, 12, 1000);
        x.time(6, 9);
        x.read(0, 3, 0);
        x.run(4);
        x.read(0, 4, 0);
        x.read(0, 3, 1);
        x.read(1, 4, 0);
        ticks("row 3 stays open for the third", x, 1104, 0, 0, 0, 0, 0, 0, 0, 3003, 0, 2000, 0, 0, 1004);
        BankScheduler y = new BankScheduler(2, 12, 1000);
        y.read(0, 3, 0);
        y.run(4);
        y.read(0, 4, 0);
        y.read(1, 3, 0);
        ticks("row 3 of another bank is not wanted", y, 1103, 0, 2000, 3103);
    }

    /** With a time 0 of 10 the oldest, of bank 0, waits from 13 to 23 for its READ. */
    private static BankScheduler withOneThatWaits(int patience) {
        BankScheduler x = new BankScheduler(2, 12, patience);
        x.time(0, 10);
        x.read(1, 0, 0);
        x.run(12);
        x.read(0, 5, 0);
        x.read(1, 0, 1);
        ticks("hit and way", x, 3100, 1005);
        x.read(1, 0, 2);
        ticks("a hit before the oldest is impatient", x, 3100);
        x.read(1, 0, 3);
        ticks("too soon for a hit", x, 0);
        return x;
    }

    private static void impatientOneIsAlone() {
        BankScheduler x = withOneThatWaits(4);
        ticks("no hit of another bank", x, 0, 0, 0, 0, 0, 0, 0, 3005, 0, 3100);
        DUE.answer("given late", x.figure(7), 3);
    }

    private static void impatienceStartsInItsCycle() {
        BankScheduler x = withOneThatWaits(5);
        ticks("a hit in its last patient cycle", x, 3100);
        x.read(1, 0, 4);
        x.read(1, 0, 5);
        ticks("and no more", x, 0, 0, 0, 0, 0, 0, 3005, 0, 3100, 0, 3100);
        DUE.answer("given late", x.figure(7), 4);
    }

    private static void impatientOneClosesAWantedRow() {
        BankScheduler x = new BankScheduler(1, 12, 4);
        x.read(0, 3, 0);
        x.run(10);
        x.read(0, 4, 0);
        x.read(0, 3, 1);
        x.read(0, 3, 2);
        x.read(0, 3, 3);
        ticks("hits, but not for ever", x, 3003, 0, 3003, 0, 2000, 0, 0, 1004, 0, 0, 3004);
        DUE.answer("the last of them waits", x.waiting(0), 4);
        ticks("then the last", x, 0, 0, 2000, 0, 0, 1003, 0, 0, 3003);
        DUE.answer("given late", x.figure(7), 2);
    }

    private static void impatientOneKeepsItsRow() {
        BankScheduler x = new BankScheduler(1, 12, 1);
        x.time(0, 20);
        x.time(2, 1);
        x.read(0, 3, 0);
        x.read(0, 4, 0);
        ticks("OPEN", x, 1003);
        DUE.answer("its own row stays open", x.run(19), 0);
        DUE.answer("still open", x.open(0), 3);
    }

    private static void impatienceYieldsToRefreshing() {
        BankScheduler x = new BankScheduler(2, 12, 1);
        x.read(0, 1, 0);
        x.run(59);
        x.read(0, 1, 1);
        x.read(1, 6, 0);
        x.read(0, 1, 1);
        ticks("patient yet, and a hit", x, 3001);
        ticks("refreshing", x, 0, 2000, 0, 0, 5000, 0, 0, 0, 0, 0, 0, 0);
        ticks("one by one", x, 1106, 0, 0, 3106, 1001, 0, 0, 3001);
    }

    private static void refreshingMayStarve() {
        BankScheduler x = new BankScheduler(1, 12, 1);
        x.time(10, 20);
        x.time(9, 20);
        x.run(20);
        x.read(0, 0, 0);
        DUE.answer("nothing but REFRESH", x.run(2000), 100);
        DUE.answer("by its count", x.figure(5), 100);
        DUE.answer("the request waits", x.figure(6), 1);
    }
}
