/** Promises 9 to 12: the latest fills, how many there were, the last price and the turnover. */
public final class FillTest {
    public static void main(String[] args) {
        wrongCalls();
        theLatestThirtyTwoAreTold();
        refusedOrdersLeaveNoTrace();
        sumsOutgrowAnInt();
        Check.end();
    }

    private static void wrongCalls() {
        MatchFloor x = new MatchFloor();
        int[] whats = {-1, 4, Integer.MIN_VALUE, Integer.MAX_VALUE};
        for (int what : whats) {
            Check.dueThrow("fill(0, " + what + ") before a fill", Check.ARGUMENT, () -> x.fill(0, what));
            Check.dueThrow("fill(-1, " + what + ")", Check.ARGUMENT, () -> x.fill(-1, what));
        }
        x.submit(5, Check.how(0, MatchFloor.LIMIT, Check.BUY), 30, 2);
        x.submit(6, Check.how(1, MatchFloor.LIMIT, Check.SELL), 20, 1);
        for (int what : whats) {
            Check.dueThrow("fill(0, " + what + ")", Check.ARGUMENT, () -> x.fill(0, what));
            Check.dueThrow("fill(1, " + what + ")", Check.ARGUMENT, () -> x.fill(1, what));
        }
        int[] places = {-1, 1, 31, 32, Integer.MIN_VALUE, Integer.MAX_VALUE};
        for (int k : places) {
            Check.dueThrow("fill(" + k + ", 0)", Check.INDEX, () -> x.fill(k, 0));
        }
        int[] want = {6, 5, 30, 1};
        for (int what = 0; what < 4; what++) {
            Check.due("fill(0, " + what + ")", x.fill(0, what), want[what]);
        }
    }

    private static void theLatestThirtyTwoAreTold() {
        MatchFloor x = new MatchFloor();
        long turnover = 0;
        for (int n = 0; n < 70; n++) {
            int price = 100 + n * 13 % 50;
            x.submit(2 * n, Check.how(0, MatchFloor.LIMIT, Check.SELL), price, 1 + n);
            Check.due("fill " + n, x.submit(2 * n + 1, Check.how(1, MatchFloor.MARKET, Check.BUY), 1, 1 + n), 1 + n);
            turnover += price * (1 + n);
            Check.due("fills()", x.fills(), n + 1);
            Check.due("last()", x.last(), price);
            Check.due("turnover()", x.turnover(), turnover);
            if (n == 31) {
                Check.due("the first of 32", x.fill(31, 0), 1);
            }
            if (n == 32) {
                Check.due("the second of 33", x.fill(31, 0), 3);
                Check.dueThrow("the first of 33", Check.INDEX, () -> x.fill(32, 0));
            }
        }
        for (int k = 0; k < 32; k += 5) {
            int n = 69 - k;
            Check.due("fill(" + k + ", 0)", x.fill(k, 0), 2 * n + 1);
            Check.due("fill(" + k + ", 1)", x.fill(k, 1), 2 * n);
            Check.due("fill(" + k + ", 2)", x.fill(k, 2), 100 + n * 13 % 50);
            Check.due("fill(" + k + ", 3)", x.fill(k, 3), 1 + n);
        }
        Check.due("fill(31, 1)", x.fill(31, 1), 2 * 38);
        Check.dueThrow("fill(32, 1)", Check.INDEX, () -> x.fill(32, 1));
        Check.dueThrow("fill(-1, 1)", Check.INDEX, () -> x.fill(-1, 1));
    }

    private static void refusedOrdersLeaveNoTrace() {
        MatchFloor x = new MatchFloor();
        x.submit(1, Check.how(0, MatchFloor.LIMIT, Check.SELL), 10, 5);
        Check.dueThrow("ALL", Check.STATE, () -> x.submit(2, Check.how(1, MatchFloor.ALL, Check.BUY), 10, 6));
        x.submit(3, Check.how(0, MatchFloor.MARKET, Check.BUY), 10, 6);
        Check.due("fills() after a cancelled one", x.fills(), 0);
        Check.due("last() after a cancelled one", x.last(), 0);
        Check.due("turnover() after a cancelled one", x.turnover(), 0);
    }

    /** One fill alone, 1000000 at 10000, is more than an int holds. */
    private static void sumsOutgrowAnInt() {
        MatchFloor x = new MatchFloor();
        for (int n = 1; n <= 200; n++) {
            x.submit(1, Check.how(0, MatchFloor.LIMIT, Check.SELL), 10000, 1000000);
            x.submit(2, Check.how(1, MatchFloor.LIMIT, Check.BUY), 10000, 1000000);
        }
        Check.due("turnover()", x.turnover(), 2000000000000L);
        Check.due("fills()", x.fills(), 200);
        Check.due("figure(4)", x.figure(4), 200000000);
    }
}
