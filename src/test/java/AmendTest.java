/** Promise 4: a kept order gets another price and left quantity. */
public final class AmendTest {
    public static void main(String[] args) {
        notMoreAtTheSamePriceKeepsTheTime();
        moreLosesTheTime();
        anotherPriceLosesTheTime();
        aMovedOrderIsMatched();
        aMovedOrderMakesStopsDue();
        aMovedOrderMayMeetItsOwner();
        aQuietOneComesInAsLimit();
        aWaitingOrderWaitsAnew();
        aWaitingOrderMayBeDue();
        aFullFloorMayBeAmended();
        wrongCallsChangeNothing();
        Check.end();
    }

    private static MatchFloor twoSellers() {
        MatchFloor x = new MatchFloor();
        Floors.limit(x, 1, 0, Check.SELL, 10, 5);
        Floors.limit(x, 2, 1, Check.SELL, 10, 5);
        return x;
    }

    private static void notMoreAtTheSamePriceKeepsTheTime() {
        MatchFloor x = twoSellers();
        Check.due("the same quantity", x.amend(1, 10, 5), 0);
        Check.due("order(1, 3)", x.order(1, 3), 0);
        Check.due("a lesser quantity", x.amend(1, 10, 2), 0);
        Check.due("order(1, 3)", x.order(1, 3), 0);
        Check.due("order(1, 2)", x.order(1, 2), 2);
        Check.due("back to 5, more than is left now", x.amend(1, 10, 5), 0);
        Check.due("order(1, 3)", x.order(1, 3), 1);
    }

    private static void moreLosesTheTime() {
        MatchFloor x = twoSellers();
        Check.due("one more", x.amend(1, 10, 6), 0);
        Check.due("view", Check.view(x, 1, 2), "buy sell 10/11/2 #1 1 10 6 1 #2 17 10 5 0 fills 0 last 0 turnover 0 figures 2 0 0 0 0");
        Floors.limit(x, 3, 2, Check.BUY, 10, 1);
        Check.due("it is the left quantity that counts", x.amend(2, 10, 5), 0);
        Check.due("order(2, 3)", x.order(2, 3), 1);
    }

    private static void anotherPriceLosesTheTime() {
        MatchFloor x = twoSellers();
        Check.due("a worse price", x.amend(1, 11, 1), 0);
        Check.due("level(1, 1, 0)", x.level(1, 1, 0), 11);
        Check.due("back again", x.amend(1, 10, 1), 0);
        Check.due("order(1, 3)", x.order(1, 3), 1);
        Check.due("order(1, 2)", x.order(1, 2), 1);
        Check.due("levels(1)", x.levels(1), 1);
    }

    private static void aMovedOrderIsMatched() {
        MatchFloor x = twoSellers();
        Floors.limit(x, 3, 2, Check.BUY, 9, 8);
        Check.due("a better price that does not fit", x.amend(3, 9, 9), 0);
        Check.due("one that fits, and has a rest", x.amend(3, 10, 12), 10);
        Check.due("view", Check.view(x, 3), "buy 10/2/1 sell #3 32 10 2 0"
                + " fills 2 (3 2 10 5) (3 1 10 5) last 10 turnover 100 figures 1 0 0 0 10");
        Floors.limit(x, 4, 0, Check.SELL, 20, 3);
        Check.due("one that fits, and has none", x.amend(4, 1, 2), 2);
        Check.due("figure(0)", x.figure(0), 0);
    }

    private static void aMovedOrderMakesStopsDue() {
        MatchFloor x = twoSellers();
        Floors.stop(x, 3, 3, Check.SELL, 10, 50);
        Floors.limit(x, 4, 2, Check.BUY, 9, 1);
        Check.due("filled before stops", x.amend(4, 10, 14), 10);
        Check.due("view", Check.view(x), "buy sell fills 3 (3 4 10 4) (4 2 10 5) (4 1 10 5) last 10 turnover 140 figures 0 0 1 0 14");
    }

    private static void aMovedOrderMayMeetItsOwner() {
        MatchFloor x = twoSellers();
        Floors.limit(x, 3, 0, Check.BUY, 9, 4);
        Check.due("past its owner's", x.amend(3, 10, 4), 4);
        Check.due("view", Check.view(x, 2), "buy sell 10/1/1 #2 17 10 1 0 fills 1 (3 2 10 4) last 10 turnover 40 figures 1 0 0 1 4");
    }

    private static void aQuietOneComesInAsLimit() {
        MatchFloor x = twoSellers();
        x.submit(3, Check.how(2, MatchFloor.QUIET, Check.BUY), 9, 4);
        Check.due("a quiet one that now fits", x.amend(3, 10, 4), 4);
    }

    private static void aWaitingOrderWaitsAnew() {
        MatchFloor x = new MatchFloor();
        Floors.stop(x, 1, 0, Check.BUY, 50, 5);
        Floors.stop(x, 2, 1, Check.SELL, 50, 5);
        Check.due("order(2, 3)", x.order(2, 3), 1);
        Check.due("the same price and quantity", x.amend(1, 50, 5), 0);
        Check.due("order(1, 3)", x.order(1, 3), 1);
        Check.due("a lesser quantity", x.amend(2, 50, 4), 0);
        Check.due("order(2, 3)", x.order(2, 3), 1);
        Check.due("another price", x.amend(1, 60, 7), 0);
        Check.due("view", Check.view(x, 1, 2), "buy sell #1 2 60 7 1 #2 19 50 4 0 fills 0 last 0 turnover 0 figures 2 2 0 0 0");
    }

    private static void aWaitingOrderMayBeDue() {
        MatchFloor x = twoSellers();
        Floors.limit(x, 3, 2, Check.BUY, 10, 1);
        Floors.stop(x, 4, 3, Check.BUY, 11, 2);
        Check.due("still not due", x.amend(4, 12, 2), 0);
        Check.due("figure(1)", x.figure(1), 1);
        Check.due("due now", x.amend(4, 10, 3), 0);
        Check.due("view", Check.view(x), "buy sell 10/6/2 fills 2 (4 1 10 3) (3 1 10 1) last 10 turnover 40 figures 2 0 1 0 4");
    }

    private static void aFullFloorMayBeAmended() {
        MatchFloor x = new MatchFloor();
        for (int id = 0; id < 40; id++) {
            Floors.limit(x, id, 0, Check.BUY, 100, 1);
        }
        Check.due("amend(7, 100, 2)", x.amend(7, 100, 2), 0);
        Check.due("order(7, 3)", x.order(7, 3), 39);
        Check.due("order(8, 3)", x.order(8, 3), 7);
        Check.due("figure(0)", x.figure(0), 40);
    }

    private static void wrongCallsChangeNothing() {
        MatchFloor x = twoSellers();
        Floors.stop(x, 3, 3, Check.BUY, 50, 5);
        Floors.limit(x, 4, 3, Check.BUY, 5, 5);
        String before = Check.view(x, 1, 2, 3, 4);
        int[] ids = {1, 3, 9};
        int[] prices = {0, -1, 10001, Integer.MIN_VALUE, Integer.MAX_VALUE};
        int[] quantities = {0, -1, 1000001, Integer.MIN_VALUE, Integer.MAX_VALUE};
        for (int id : ids) {
            for (int price : prices) {
                Check.dueThrow("amend(" + id + ", " + price + ", 1)", Check.ARGUMENT, () -> x.amend(id, price, 1));
            }
            for (int quantity : quantities) {
                Check.dueThrow("amend(" + id + ", 10, " + quantity + ")", Check.ARGUMENT, () -> x.amend(id, 10, quantity));
            }
        }
        Check.dueThrow("amend(9, 10, 1)", Check.ELEMENT, () -> x.amend(9, 10, 1));
        Check.due("view after wrong calls", Check.view(x, 1, 2, 3, 4), before);
        Check.due("the lowest", x.amend(4, 1, 1), 0);
        Check.due("the highest", x.amend(1, 10000, 1000000), 0);
        Check.due("level(1, 1, 1)", x.level(1, 1, 1), 1000000);
    }
}
