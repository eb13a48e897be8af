/**
 * Two objects made alike, to which the same calls are made; to one of them calls that are refused
 * are made as well. All that can be asked of the two, then and later, must be the same.
 */
final class Twins {
    interface Use {
        int of(BankScheduler x);
    }

    private static final int MOST_CALLS = 512;

    private final Due due;
    private final int banks;
    private final BankScheduler plain;
    private final BankScheduler tried;
    private int calls;

    Twins(Due due, int banks, int places, int patience) {
        this.due = due;
        this.banks = banks;
        plain = new BankScheduler(banks, places, patience);
        tried = new BankScheduler(banks, places, patience);
    }

    void both(String what, Use use) {
        calls++;
        String want = Due.outcome(() -> use.of(plain));
        String got = Due.outcome(() -> use.of(tried));
        due.holds(what + ": " + got + " is " + want, got.equals(want));
    }

    void refused(String what, Class<? extends RuntimeException> want, Use use) {
        calls++;
        due.refused(what, want, () -> use.of(tried));
    }

    /** What can be asked, and then what comes of cycles and of commands to the checker. */
    void areTheSame(String what) {
        askTimes(what);
        askController(what);
        askWords(what);
        askChecker(what);
        for (int i = 0; i < 50; i++) {
            both(what + ", then tick()", x -> x.tick());
        }
        both(what + ", then late ones", x -> x.figure(7));
        due.holds(what + ": " + calls + " calls are not too many", calls <= MOST_CALLS);
    }

    private void askTimes(String what) {
        for (int which = 0; which < 12; which++) {
            int w = which;
            both(what + ", time " + w, x -> timeOf(x, w));
            calls++;
        }
    }

    /** Both calls are refused behind the first cycle; before it the time is as it was. */
    private static int timeOf(BankScheduler x, int which) {
        int was = x.time(which, 20);
        x.time(which, was);
        return was;
    }

    private void askController(String what) {
        for (int number = 0; number < 9; number++) {
            int f = number;
            both(what + ", figure(" + f + ")", x -> x.figure(f));
        }
        for (int bank = 0; bank < banks; bank++) {
            int b = bank;
            both(what + ", open(" + b + ")", x -> x.open(b));
        }
        for (int k = 0; k < 6; k++) {
            int w = k;
            both(what + ", waiting(" + w + ")", x -> x.waiting(w));
        }
        for (int request = 0; request < 40; request++) {
            int r = request;
            both(what + ", result(" + r + ")", x -> x.result(r));
        }
    }

    private void askWords(String what) {
        for (int place = 0; place < banks * 128; place++) {
            int p = place;
            both(what + ", word " + p, x -> x.word(p / 128, p / 8 % 16, p % 8));
        }
    }

    private void askChecker(String what) {
        both(what + ", pause(0)", x -> x.pause(0));
        for (int i = 0; i < 40; i++) {
            int c = i;
            both(what + ", then check()", x -> x.check(c % 5, c / 5 % banks, 3));
        }
    }
}
