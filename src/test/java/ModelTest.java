import java.util.Arrays;
import java.util.Random;

/** Runs of made-up calls, the same each time, answered by BankScheduler as by the model. */
public final class ModelTest {
    private static final int RUNS = 1500;
    private static final int CALLS = 512;
    private static final int CALLS_FOR_TIMES = 14;
    private static final Due DUE = new Due("ModelTest");

    private enum Kind { TIME, READ, WRITE, TICK, RUN, RESULT, WORD, OPEN, WAITING, FIGURE, CHECK, PAUSE }

    /** A kind stands here as often as its share of the calls is to be. */
    private static final Kind[] SHARES = {
        Kind.TIME, Kind.READ, Kind.READ, Kind.READ, Kind.WRITE, Kind.WRITE, Kind.WRITE, Kind.TICK,
        Kind.TICK, Kind.TICK, Kind.TICK, Kind.TICK, Kind.TICK, Kind.RUN, Kind.RESULT, Kind.RESULT,
        Kind.WORD, Kind.OPEN, Kind.WAITING, Kind.FIGURE, Kind.FIGURE, Kind.CHECK, Kind.CHECK,
        Kind.CHECK, Kind.CHECK, Kind.CHECK, Kind.PAUSE};

    private final Random random;
    private final BankScheduler real;
    private final Model model;
    private final int banks;
    private final int rows;
    private final int columns;
    private final int longestRun;

    private ModelTest(long seed) {
        random = new Random(seed);
        int givenBanks = random.nextInt(11) - 1;
        int givenPlaces = random.nextInt(3) == 0 ? random.nextInt(16) - 1 : 12;
        int givenPatience = random.nextInt(4) == 0 ? random.nextInt(1100) - 10 : random.nextInt(60);
        real = new BankScheduler(givenBanks, givenPlaces, givenPatience);
        model = new Model(givenBanks, givenPlaces, givenPatience);
        banks = Math.max(1, Math.min(8, givenBanks));
        // few words make requests meet: the same rows, the same words
        rows = random.nextBoolean() ? 16 : 2;
        columns = random.nextBoolean() ? 8 : 1;
        longestRun = random.nextBoolean() ? 8 : 60;
    }

    public static void main(String[] args) {
        for (int seed = 1; seed <= RUNS; seed++) {
            new ModelTest(seed).compare(seed);
        }
        DUE.end();
    }

    private void compare(int seed) {
        for (int call = 0; call < CALLS; call++) {
            boolean early = call < CALLS_FOR_TIMES && random.nextBoolean();
            Kind kind = early ? Kind.TIME : SHARES[random.nextInt(SHARES.length)];
            int[] a = argumentsOf(kind);
            String got = Due.outcome(() -> callReal(kind, a));
            String want = Due.outcome(() -> callModel(kind, a));
            boolean same = got.equals(want);
            DUE.holds("seed " + seed + ", call " + call + ", " + kind + Arrays.toString(a)
                    + ": " + got + " is " + want, same);
            if (!same) {
                return;
            }
        }
    }

    private int[] argumentsOf(Kind kind) {
        switch (kind) {
            case TIME:
                int which = about(12);
                return new int[] {which, valueFor(which)};
            case READ:
            case WORD:
                return new int[] {about(banks), about(rows), about(columns)};
            case WRITE:
                int number = random.nextInt(5) == 0 ? random.nextInt() : random.nextInt(100);
                return new int[] {about(banks), about(rows), about(columns), number};
            case TICK:
                return new int[0];
            case RUN:
                return new int[] {seldomOr(2000, longestRun)};
            case RESULT:
                return new int[] {model.requests() + 1 - random.nextInt(37)};
            case OPEN:
                return new int[] {about(banks)};
            case WAITING:
                return new int[] {about(12)};
            case FIGURE:
                return new int[] {about(9)};
            case CHECK:
                return new int[] {about(5), about(banks), random.nextInt(20) == 0 ? about(16) : about(2)};
            default:
                return new int[] {seldomOr(1000, 8)};
        }
    }

    /** Mostly 0 .. below - 1, now and then a little beside it. */
    private int about(int below) {
        return random.nextInt(30) == 0 ? random.nextInt(below + 4) - 2 : random.nextInt(below);
    }

    private int valueFor(int which) {
        boolean small = random.nextBoolean();
        return which == 10 ? 18 + random.nextInt(small ? 60 : 185) : random.nextInt(small ? 6 : 22);
    }

    private int seldomOr(int most, int below) {
        return random.nextInt(30) == 0 ? random.nextInt(most + 10) - 5 : random.nextInt(below);
    }

    private int callReal(Kind kind, int[] a) {
        return switch (kind) {
            case TIME -> real.time(a[0], a[1]);
            case READ -> real.read(a[0], a[1], a[2]);
            case WRITE -> real.write(a[0], a[1], a[2], a[3]);
            case TICK -> real.tick();
            case RUN -> real.run(a[0]);
            case RESULT -> real.result(a[0]);
            case WORD -> real.word(a[0], a[1], a[2]);
            case OPEN -> real.open(a[0]);
            case WAITING -> real.waiting(a[0]);
            case FIGURE -> real.figure(a[0]);
            case CHECK -> real.check(a[0], a[1], a[2]);
            case PAUSE -> real.pause(a[0]);
        };
    }

    private int callModel(Kind kind, int[] a) {
        return switch (kind) {
            case TIME -> model.time(a[0], a[1]);
            case READ -> model.read(a[0], a[1], a[2]);
            case WRITE -> model.write(a[0], a[1], a[2], a[3]);
            case TICK -> model.tick();
            case RUN -> model.run(a[0]);
            case RESULT -> model.result(a[0]);
            case WORD -> model.word(a[0], a[1], a[2]);
            case OPEN -> model.open(a[0]);
            case WAITING -> model.waiting(a[0]);
            case FIGURE -> model.figure(a[0]);
            case CHECK -> model.check(a[0], a[1], a[2]);
            case PAUSE -> model.pause(a[0]);
        };
    }
}
