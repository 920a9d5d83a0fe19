/** The edges of promises 9 to 12: no fill yet, one, 31, 32, 33; what is asked beyond its ends; the least and greatest sums. */
public final class FillEdgesTest {
    private static final int[] NOT_WHATS = {Integer.MIN_VALUE, -1, 4, 5, Integer.MAX_VALUE};

    public static void main(String[] args) {
        noFillYet();
        asManyAsThereWere();
        thirtyOneTo33();
        whatsBeyondTheirEnds();
        whatsComeBeforePlaces();
        leastAndGreatestFills();
        severalInOneCall();
        noFillComesOfIt();
        turnoverIsALong();
        Check.end();
    }

    private static void noFillYet() {
        MatchFloor x = new MatchFloor();
        Floors.limit(x, 1, 0, Check.SELL, 50, 1);
        Floors.limit(x, 2, 0, Check.BUY, 49, 1);
        Floors.stop(x, 3, 0, Check.BUY, 50, 1);
        int[] ks = {Integer.MIN_VALUE, -1, 0, 1, 31, 32, Integer.MAX_VALUE};
        for (int k : ks) {
            Check.dueThrow("fill(" + k + ", 0)", Check.INDEX, () -> x.fill(k, 0));
            Check.dueThrow("fill(" + k + ", 3)", Check.INDEX, () -> x.fill(k, 3));
        }
        Check.due("fills()", x.fills(), 0);
        Check.due("last()", x.last(), 0);
        Check.due("turnover()", x.turnover(), 0);
    }

    private static void fillOnce(MatchFloor x, int n) {
        Floors.limit(x, 100 + n, 0, Check.SELL, 50 + n, 1 + n);
        Floors.limit(x, 200 + n, 1, Check.BUY, 50 + n, 1 + n);
    }

    private static void asManyAsThereWere() {
        MatchFloor x = new MatchFloor();
        for (int n = 0; n < 31; n++) {
            fillOnce(x, n);
            int beyond = n + 1;
            Check.dueFill("the latest", x, 0, 200 + n, 100 + n, 50 + n, 1 + n);
            Check.due("the first", x.fill(n, 0), 200);
            Check.dueThrow("fill(" + beyond + ", 0) of " + beyond, Check.INDEX, () -> x.fill(beyond, 0));
            Check.due("fills()", x.fills(), n + 1);
        }
    }

    private static void thirtyOneTo33() {
        for (int count = 31; count <= 34; count++) {
            MatchFloor x = new MatchFloor();
            for (int n = 0; n < count; n++) {
                fillOnce(x, n);
            }
            for (int k = 0; k < Math.min(count, 32); k++) {
                int n = count - 1 - k;
                Check.dueFill(count + " fills", x, k, 200 + n, 100 + n, 50 + n, 1 + n);
            }
            int[] ks = {-1, Math.min(count, 32), 32, 33, count, 63, 64, Integer.MIN_VALUE, Integer.MAX_VALUE};
            for (int k : ks) {
                for (int what = 0; what < 4; what++) {
                    int asked = what;
                    Check.dueThrow(count + " fills: fill(" + k + ", " + what + ")", Check.INDEX, () -> x.fill(k, asked));
                }
            }
            Check.due("fills()", x.fills(), count);
        }
    }

    private static void whatsBeyondTheirEnds() {
        MatchFloor x = Floors.full();
        for (int what : NOT_WHATS) {
            for (int k = 0; k < 32; k++) {
                int told = k;
                Check.dueThrow("fill(" + k + ", " + what + ")", Check.ARGUMENT, () -> x.fill(told, what));
            }
        }
        Check.dueFill("the latest", x, 0, 40, 32, 50, 1);
        Check.dueFill("the earliest told", x, 31, 40, 1, 50, 1);
    }

    private static void whatsComeBeforePlaces() {
        MatchFloor[] floors = {new MatchFloor(), Floors.busy(), Floors.full()};
        int[] ks = {Integer.MIN_VALUE, -1, 0, 1, 31, 32, 33, Integer.MAX_VALUE};
        for (MatchFloor x : floors) {
            for (int k : ks) {
                for (int what : NOT_WHATS) {
                    Check.dueThrow("fill(" + k + ", " + what + ")", Check.ARGUMENT, () -> x.fill(k, what));
                }
            }
        }
    }

    private static void leastAndGreatestFills() {
        int[] prices = {1, 10000};
        int[] quantities = {1, 1000000};
        for (int price : prices) {
            for (int quantity : quantities) {
                MatchFloor x = new MatchFloor();
                Floors.limit(x, Integer.MIN_VALUE, 0, Check.SELL, price, quantity);
                Floors.limit(x, Integer.MAX_VALUE, 7, Check.BUY, price, quantity);
                Check.dueFill("an end", x, 0, Integer.MAX_VALUE, Integer.MIN_VALUE, price, quantity);
                Check.due("fills()", x.fills(), 1);
                Check.due("last()", x.last(), price);
                Check.due("turnover()", x.turnover(), (long) price * quantity);
            }
        }
    }

    private static void severalInOneCall() {
        MatchFloor x = new MatchFloor();
        for (int id = 0; id < 39; id++) {
            Floors.limit(x, id, 0, Check.SELL, 100 + id, 1);
        }
        Floors.market(x, 50, 1, Check.BUY, 1000000);
        Check.due("fills()", x.fills(), 39);
        Check.due("last()", x.last(), 138);
        Check.due("turnover()", x.turnover(), 39 * 119);
        for (int k = 0; k < 32; k++) {
            Check.dueFill("of one call", x, k, 50, 38 - k, 138 - k, 1);
        }
        Check.dueThrow("the thirty-third", Check.INDEX, () -> x.fill(32, 0));
    }

    private static void noFillComesOfIt() {
        MatchFloor x = Floors.busy();
        x.cancel(1);
        x.amend(2, 50, 4);
        x.amend(3, 70, 4);
        x.amend(6, 80, 4);
        x.withdraw(4);
        Floors.put(x, MatchFloor.AT_ONCE, 20, 1, Check.BUY, 50, 1);
        Check.dueThrow("ALL", Check.STATE, () -> Floors.put(x, MatchFloor.ALL, 20, 7, Check.BUY, 70, 1000));
        Check.dueThrow("a price beyond its end", Check.ARGUMENT, () -> Floors.limit(x, 20, 7, Check.BUY, 10001, 1));
        Check.due("fills()", x.fills(), 1);
        Check.due("last()", x.last(), 50);
        Check.due("turnover()", x.turnover(), 300);
        Check.dueFill("still the only one", x, 0, 9, 1, 50, 6);
    }

    /** The greatest sum that 512 calls can reach is 256 fills of 1000000 at 10000. */
    private static void turnoverIsALong() {
        MatchFloor x = new MatchFloor();
        for (int n = 0; n < 255; n++) {
            Floors.limit(x, 1, 0, Check.SELL, 10000, 1000000);
            Floors.limit(x, 2, 1, Check.BUY, 10000, 1000000);
        }
        Check.due("turnover()", x.turnover(), 2550000000000L);
        Check.due("fills()", x.fills(), 255);
    }
}
