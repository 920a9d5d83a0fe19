/** Promise 2 and the terms: what each kind does with what is left, and which orders it refuses. */
public final class KindsTest {
    public static void main(String[] args) {
        constants();
        limitRests();
        marketTakesEveryPrice();
        atOnceLeavesNothing();
        allTakesAllOrNothing();
        allCountsNoneOfItsOwner();
        allMayMeetItsOwner();
        quietNeverMatches();
        quietIsRefusedByItsOwnOrder();
        Check.end();
    }

    private static int sell(MatchFloor x, int id, int owner, int price, int quantity) {
        return x.submit(id, Check.how(owner, MatchFloor.LIMIT, Check.SELL), price, quantity);
    }

    private static int buy(MatchFloor x, int id, int owner, int price, int quantity) {
        return x.submit(id, Check.how(owner, MatchFloor.LIMIT, Check.BUY), price, quantity);
    }

    private static void constants() {
        int[] kinds = {MatchFloor.LIMIT, MatchFloor.MARKET, MatchFloor.AT_ONCE, MatchFloor.ALL, MatchFloor.QUIET, MatchFloor.STOP};
        for (int kind = 0; kind < kinds.length; kind++) {
            Check.due("the constant of kind " + kind, kinds[kind], kind);
        }
    }

    private static void limitRests() {
        MatchFloor x = new MatchFloor();
        sell(x, 1, 0, 10, 3);
        Check.due("a limit order", buy(x, 2, 1, 10, 5), 3);
        Check.due("its rest", x.order(2, 2), 2);
        Check.due("one that is filled", sell(x, 3, 0, 10, 2), 2);
        Check.dueThrow("rests no more", Check.ELEMENT, () -> x.order(2, 2));
        Check.dueThrow("never rested", Check.ELEMENT, () -> x.order(3, 2));
    }

    private static void marketTakesEveryPrice() {
        MatchFloor x = new MatchFloor();
        int buy = Check.how(1, MatchFloor.MARKET, Check.BUY);
        int sell = Check.how(1, MatchFloor.MARKET, Check.SELL);
        Check.due("a market order that meets nothing", x.submit(1, buy, 1, 5), 0);
        Check.dueThrow("it is gone", Check.ELEMENT, () -> x.order(1, 0));
        sell(x, 2, 0, 10, 3);
        sell(x, 3, 0, 10000, 3);
        Check.due("a market buyer", x.submit(4, buy, 1, 8), 6);
        Check.dueThrow("what is left is gone", Check.ELEMENT, () -> x.order(4, 0));
        buy(x, 5, 0, 9, 3);
        buy(x, 6, 0, 1, 3);
        Check.due("a market seller", x.submit(7, sell, 10000, 8), 6);
        Check.due("view", Check.view(x), "buy sell fills 4 (7 6 1 3) (7 5 9 3) (4 3 10000 3) (4 2 10 3)"
                + " last 1 turnover 30060 figures 0 0 0 0 12");
    }

    private static void atOnceLeavesNothing() {
        MatchFloor x = new MatchFloor();
        int atOnce = Check.how(1, MatchFloor.AT_ONCE, Check.BUY);
        sell(x, 1, 0, 10, 3);
        sell(x, 2, 0, 11, 3);
        Check.due("one below the book", x.submit(3, atOnce, 9, 5), 0);
        Check.due("one within the book", x.submit(4, atOnce, 10, 5), 3);
        Check.due("one that is filled", x.submit(5, atOnce, 11, 2), 2);
        Check.due("view", Check.view(x, 2), "buy sell 11/1/1 #2 1 11 1 0 fills 2 (5 2 11 2) (4 1 10 3)"
                + " last 11 turnover 52 figures 1 0 0 0 5");
    }

    private static void allTakesAllOrNothing() {
        MatchFloor x = new MatchFloor();
        int all = Check.how(1, MatchFloor.ALL, Check.BUY);
        Check.dueThrow("ALL of an empty book", Check.STATE, () -> x.submit(9, all, 10000, 1));
        sell(x, 1, 0, 10, 3);
        sell(x, 2, 2, 11, 3);
        sell(x, 3, 0, 12, 3);
        x.submit(4, Check.how(0, MatchFloor.STOP, Check.SELL), 5, 100);
        Check.dueThrow("ALL for one too many", Check.STATE, () -> x.submit(9, all, 11, 7));
        Check.due("fills()", x.fills(), 0);
        Check.due("ALL for all that fits", x.submit(9, all, 11, 6), 6);
        Check.due("level(1, 0, 0)", x.level(1, 0, 0), 12);
        Check.due("figure(0)", x.figure(0), 2);
        int allSell = Check.how(1, MatchFloor.ALL, Check.SELL);
        buy(x, 5, 0, 8, 3);
        buy(x, 6, 0, 7, 3);
        Check.dueThrow("ALL that sells one too many", Check.STATE, () -> x.submit(9, allSell, 8, 4));
        Check.due("ALL that sells less", x.submit(9, allSell, 7, 4), 4);
        Check.due("what it left", x.order(6, 2), 2);
    }

    private static void allCountsNoneOfItsOwner() {
        MatchFloor x = new MatchFloor();
        sell(x, 1, 1, 10, 30);
        sell(x, 2, 0, 11, 3);
        Check.dueThrow("ALL with its owner's", Check.STATE, () -> x.submit(9, Check.how(1, MatchFloor.ALL, Check.BUY), 11, 4));
        Check.due("its owner's stays", x.order(1, 2), 30);
        Check.due("figure(3)", x.figure(3), 0);
    }

    private static void allMayMeetItsOwner() {
        MatchFloor x = new MatchFloor();
        sell(x, 1, 1, 10, 30);
        sell(x, 2, 0, 11, 3);
        sell(x, 3, 1, 11, 5);
        Check.due("ALL of the others'", x.submit(9, Check.how(1, MatchFloor.ALL, Check.BUY), 11, 3), 3);
        Check.due("view", Check.view(x, 3), "buy sell 11/5/1 #3 17 11 5 0 fills 1 (9 2 11 3) last 11 turnover 33 figures 1 0 0 1 3");
    }

    private static void quietNeverMatches() {
        MatchFloor x = new MatchFloor();
        int buys = Check.how(1, MatchFloor.QUIET, Check.BUY);
        int sells = Check.how(0, MatchFloor.QUIET, Check.SELL);
        Check.due("a quiet seller in an empty book", x.submit(1, sells, 10, 4), 0);
        Check.dueThrow("a quiet buyer at its price", Check.STATE, () -> x.submit(2, buys, 10, 4));
        Check.dueThrow("a quiet buyer above it", Check.STATE, () -> x.submit(2, buys, 11, 4));
        Check.due("a quiet buyer below it", x.submit(2, buys, 9, 4), 0);
        Check.dueThrow("a quiet seller at its price", Check.STATE, () -> x.submit(3, sells, 9, 4));
        Check.dueThrow("a quiet seller below it", Check.STATE, () -> x.submit(3, sells, 8, 4));
        Check.due("a quiet seller with the first one", x.submit(3, sells, 10, 1), 0);
        Check.due("view", Check.view(x, 1, 2, 3), "buy 9/4/1 sell 10/5/2 #1 1 10 4 0 #2 16 9 4 0 #3 1 10 1 1"
                + " fills 0 last 0 turnover 0 figures 3 0 0 0 0");
    }

    private static void quietIsRefusedByItsOwnOrder() {
        MatchFloor x = new MatchFloor();
        sell(x, 1, 1, 10, 4);
        Check.dueThrow("a quiet buyer of the same owner", Check.STATE, () -> x.submit(2, Check.how(1, MatchFloor.QUIET, Check.BUY), 10, 4));
        Check.due("figure(0)", x.figure(0), 1);
    }
}
