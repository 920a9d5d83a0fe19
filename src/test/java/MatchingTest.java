/** Promise 2 and the terms: the book, when a price fits, matching. */
public final class MatchingTest {
    public static void main(String[] args) {
        betterPricesComeFirst();
        earlierTimesComeFirst();
        theRestingPriceIsPaid();
        equalPricesFit();
        matchingEndsWhereThePriceDoesNotFit();
        ordersOfTheSameOwnerAreCancelled();
        anOwnOrderBehindTheLastFillStays();
        anOwnOrderThatDoesNotFitStays();
        aPartlyFilledOrderKeepsItsTime();
        waitingOrdersAreNotInTheBook();
        Check.end();
    }

    private static void betterPricesComeFirst() {
        MatchFloor x = new MatchFloor();
        Floors.limit(x, 1, 0, Check.SELL, 102, 1);
        Floors.limit(x, 2, 0, Check.SELL, 100, 1);
        Floors.limit(x, 3, 0, Check.SELL, 101, 1);
        Check.due("a buyer of 3", Floors.limit(x, 4, 1, Check.BUY, 200, 3), 3);
        Check.due("view", Check.view(x), "buy sell fills 3 (4 1 102 1) (4 3 101 1) (4 2 100 1)"
                + " last 102 turnover 303 figures 0 0 0 0 3");
        MatchFloor y = new MatchFloor();
        Floors.limit(y, 1, 0, Check.BUY, 101, 1);
        Floors.limit(y, 2, 0, Check.BUY, 103, 1);
        Floors.limit(y, 3, 0, Check.BUY, 102, 1);
        Check.due("a seller of 3", Floors.limit(y, 4, 1, Check.SELL, 1, 3), 3);
        Check.due("view", Check.view(y), "buy sell fills 3 (4 1 101 1) (4 3 102 1) (4 2 103 1)"
                + " last 101 turnover 306 figures 0 0 0 0 3");
    }

    private static void earlierTimesComeFirst() {
        for (int side = 0; side < 2; side++) {
            MatchFloor x = new MatchFloor();
            Floors.limit(x, 9, 0, side, 50, 2);
            Floors.limit(x, 3, 1, side, 50, 2);
            Floors.limit(x, 6, 2, side, 50, 2);
            Check.due("what meets them", Floors.limit(x, 4, 3, 1 - side, 50, 5), 5);
            Check.due("the first fill", x.fill(2, 1), 9);
            Check.due("the second fill", x.fill(1, 1), 3);
            Check.due("the third fill", x.fill(0, 1), 6);
            Check.due("the third fill's quantity", x.fill(0, 3), 1);
            Check.due("left of the last", x.order(6, 2), 1);
        }
    }

    private static void theRestingPriceIsPaid() {
        MatchFloor x = new MatchFloor();
        Floors.limit(x, 1, 0, Check.SELL, 90, 5);
        Check.due("a buyer at 120", Floors.limit(x, 2, 1, Check.BUY, 120, 2), 2);
        Check.due("fill(0, 2)", x.fill(0, 2), 90);
        Floors.limit(x, 3, 0, Check.BUY, 80, 5);
        Check.due("a seller at 70", Floors.limit(x, 4, 1, Check.SELL, 70, 2), 2);
        Check.due("fill(0, 2)", x.fill(0, 2), 80);
    }

    private static void equalPricesFit() {
        MatchFloor x = new MatchFloor();
        Floors.limit(x, 1, 0, Check.SELL, 90, 5);
        Check.due("a buyer at 89", Floors.limit(x, 2, 1, Check.BUY, 89, 5), 0);
        Check.due("a buyer at 90", Floors.limit(x, 3, 1, Check.BUY, 90, 1), 1);
        Check.due("a seller at 90", Floors.limit(x, 4, 2, Check.SELL, 90, 1), 0);
        Check.due("a seller at 89", Floors.limit(x, 5, 2, Check.SELL, 89, 1), 1);
        Check.due("who rested", x.fill(0, 1), 2);
    }

    private static void matchingEndsWhereThePriceDoesNotFit() {
        MatchFloor x = new MatchFloor();
        Floors.limit(x, 1, 0, Check.SELL, 10, 3);
        Floors.limit(x, 2, 0, Check.SELL, 11, 3);
        Floors.limit(x, 3, 0, Check.SELL, 12, 3);
        Check.due("a buyer at 11", Floors.limit(x, 4, 1, Check.BUY, 11, 10), 6);
        Check.due("view", Check.view(x, 1, 2, 4),
                "buy 11/4/1 sell 12/3/1 #1 throws.NoSuchElementException throws.NoSuchElementException"
                + " throws.NoSuchElementException throws.NoSuchElementException"
                + " #2 throws.NoSuchElementException throws.NoSuchElementException"
                + " throws.NoSuchElementException throws.NoSuchElementException #4 16 11 4 0"
                + " fills 2 (4 2 11 3) (4 1 10 3) last 11 turnover 63 figures 2 0 0 0 6");
    }

    private static void ordersOfTheSameOwnerAreCancelled() {
        MatchFloor x = new MatchFloor();
        Floors.limit(x, 1, 5, Check.SELL, 10, 3);
        Floors.limit(x, 2, 6, Check.SELL, 11, 3);
        Floors.limit(x, 3, 5, Check.SELL, 12, 3);
        Check.due("a buyer of the same owner", Floors.limit(x, 4, 5, Check.BUY, 12, 4), 3);
        Check.due("view", Check.view(x, 4), "buy 12/1/1 sell #4 80 12 1 0 fills 1 (4 2 11 3)"
                + " last 11 turnover 33 figures 1 0 0 2 3");
    }

    private static void anOwnOrderBehindTheLastFillStays() {
        MatchFloor x = new MatchFloor();
        Floors.limit(x, 1, 6, Check.SELL, 10, 3);
        Floors.limit(x, 2, 5, Check.SELL, 10, 3);
        Check.due("filled by the first", Floors.limit(x, 3, 5, Check.BUY, 12, 3), 3);
        Check.due("order(2, 2)", x.order(2, 2), 3);
        Check.due("figure(3)", x.figure(3), 0);
    }

    private static void anOwnOrderThatDoesNotFitStays() {
        MatchFloor x = new MatchFloor();
        Floors.limit(x, 1, 5, Check.SELL, 10, 3);
        Check.due("a buyer below", Floors.limit(x, 2, 5, Check.BUY, 9, 3), 0);
        Check.due("figure(0)", x.figure(0), 2);
        Check.due("figure(3)", x.figure(3), 0);
    }

    private static void aPartlyFilledOrderKeepsItsTime() {
        MatchFloor x = new MatchFloor();
        Floors.limit(x, 1, 0, Check.SELL, 10, 3);
        Floors.limit(x, 2, 1, Check.SELL, 10, 3);
        Floors.limit(x, 3, 2, Check.BUY, 10, 2);
        Check.due("order(1, 3)", x.order(1, 3), 0);
        Floors.limit(x, 4, 2, Check.BUY, 10, 2);
        Check.due("the first goes on", x.fill(1, 1), 1);
        Check.due("the second follows", x.fill(0, 1), 2);
    }

    private static void waitingOrdersAreNotInTheBook() {
        MatchFloor x = new MatchFloor();
        x.submit(1, Check.how(0, MatchFloor.STOP, Check.SELL), 10, 3);
        Check.due("a buyer above a stop", Floors.limit(x, 2, 1, Check.BUY, 20, 3), 0);
        Check.due("levels(1)", x.levels(1), 0);
        Check.due("levels(0)", x.levels(0), 1);
        Check.due("fills()", x.fills(), 0);
    }
}
