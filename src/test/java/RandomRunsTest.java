/** Promises 1 to 13 together: long mixed runs, each answer compared with that of Reference. */
public final class RandomRunsTest {
    private static final int RUNS = 1500;
    private static final int CALLS = 512;

    // A generator of our own, so that the runs are the same on every machine.
    private static long seed;

    public static void main(String[] args) {
        for (int run = 0; run < RUNS; run++) {
            if (!isRunAsDue(run)) {
                break;
            }
        }
        Check.end();
    }

    private static int below(int bound) {
        seed = seed * 6364136223846793005L + 1442695040888963407L;
        return (int) ((seed >>> 33) % bound);
    }

    /** Mostly from the range, at times one step beyond its ends, rarely far out. */
    private static int about(int low, int high) {
        int luck = below(100);
        if (luck == 0) {
            return below(2) == 0 ? Integer.MIN_VALUE : Integer.MAX_VALUE;
        }
        if (luck < 3) {
            return luck == 1 ? low - 1 : high + 1;
        }
        return low + below(high - low + 1);
    }

    private static boolean isRunAsDue(int run) {
        seed = 1000003L * run + 17;
        MatchFloor floor = new MatchFloor();
        Reference reference = new Reference();
        Shape shape = new Shape(1 + below(60), 1 + below(25), 1 + below(8), below(4), below(2) * below(25));
        for (int call = 0; call < CALLS; call++) {
            Asked asked = shape.next();
            String got = Check.answer(() -> asked.of(floor));
            String want = Check.answer(() -> asked.of(reference));
            if (!got.equals(want)) {
                Check.tell("run " + run + ", call " + call + ": " + asked + " answered " + got + ", due is " + want);
                return false;
            }
        }
        return true;
    }

    /**
     * What kind of run it is: few or many ids, prices and owners, small or large quantities, and how far
     * sellers ask above what buyers bid: without such a gap the book never gets deep.
     */
    private record Shape(int ids, int prices, int owners, int size, int gap) {
        Asked next() {
            int luck = below(100);
            if (luck < 45) {
                int side = below(2);
                int how = below(50) == 0 ? about(0, 127) : Check.how(below(owners), kind(), side);
                return new Asked(Asked.SUBMIT, below(ids), how, price(side), quantity());
            }
            if (luck < 49) {
                return new Asked(Asked.CANCEL, below(ids), 0, 0, 0);
            }
            if (luck < 60) {
                return new Asked(Asked.AMEND, below(ids), price(below(2)), quantity(), 0);
            }
            if (luck < 61) {
                return new Asked(Asked.WITHDRAW, about(0, 7), 0, 0, 0);
            }
            int method = Asked.LEVELS + below(8);
            return switch (method) {
                case Asked.LEVELS -> new Asked(Asked.LEVELS, about(0, 1), 0, 0, 0);
                case Asked.LEVEL -> new Asked(Asked.LEVEL, about(0, 1), about(0, 3), about(0, 2), 0);
                case Asked.ORDER -> new Asked(Asked.ORDER, below(ids), about(0, 3), 0, 0);
                case Asked.FILL -> new Asked(Asked.FILL, below(4) == 0 ? about(0, 31) : about(0, 3), about(0, 3), 0, 0);
                case Asked.FIGURE -> new Asked(Asked.FIGURE, about(0, 4), 0, 0, 0);
                default -> new Asked(method, 0, 0, 0, 0);
            };
        }

        private int kind() {
            int luck = below(gap == 0 ? 10 : 30);
            return luck < 6 ? luck : luck == 6 ? MatchFloor.STOP : MatchFloor.LIMIT;
        }

        private int price(int side) {
            int base = size == 3 ? 10000 - prices - gap + 1 : 1 + size * 100;
            return below(60) == 0 ? about(1, 10000) : base + below(prices) + side * gap;
        }

        private int quantity() {
            return below(60) == 0 ? about(1, 1000000) : 1 + below(size == 0 ? 3 : size == 1 ? 30 : 1000000);
        }
    }
}
