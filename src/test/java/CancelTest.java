/** Promise 3: a kept order is taken back. */
public final class CancelTest {
    public static void main(String[] args) {
        MatchFloor x = new MatchFloor();
        x.submit(1, Check.how(0, MatchFloor.LIMIT, Check.SELL), 10, 8);
        x.submit(2, Check.how(1, MatchFloor.LIMIT, Check.SELL), 10, 9);
        x.submit(3, Check.how(1, MatchFloor.STOP, Check.BUY), 20, 7);
        x.submit(4, Check.how(1, MatchFloor.STOP, Check.BUY), 20, 6);
        x.submit(5, Check.how(2, MatchFloor.MARKET, Check.BUY), 1, 3);
        String before = Check.view(x, 1, 2, 3, 4, 5);
        Check.dueThrow("cancel(5) of one never kept", Check.ELEMENT, () -> x.cancel(5));
        Check.dueThrow("cancel(0)", Check.ELEMENT, () -> x.cancel(0));
        Check.dueThrow("cancel(-1)", Check.ELEMENT, () -> x.cancel(-1));
        Check.due("view after wrong calls", Check.view(x, 1, 2, 3, 4, 5), before);
        Check.due("cancel(1), partly filled", x.cancel(1), 5);
        Check.due("cancel(3), waiting", x.cancel(3), 7);
        Check.dueThrow("cancel(1) again", Check.ELEMENT, () -> x.cancel(1));
        Check.dueThrow("cancel(3) again", Check.ELEMENT, () -> x.cancel(3));
        Check.due("view", Check.view(x, 2, 4), "buy sell 10/9/1 #2 17 10 9 0 #4 18 20 6 0"
                + " fills 1 (5 1 10 3) last 10 turnover 30 figures 2 1 0 0 3");
        Check.due("a taken back id comes again", x.submit(1, Check.how(0, MatchFloor.LIMIT, Check.SELL), 10, 1), 0);
        Check.due("behind the other", x.order(1, 3), 1);
        Check.end();
    }
}
