/** Promise 2 and the terms: orders that wait, and when and how they are matched. */
public final class StopTest {
    public static void main(String[] args) {
        noStopIsDueBeforeTheFirstFill();
        buyersAreDueAtTheirPriceOrMore();
        sellersAreDueAtTheirPriceOrLess();
        aStopMayBeDueAtOnce();
        whatIsLeftOfAStopIsGone();
        theEarliestDueStopComesFirst();
        aStopMakesOthersDue();
        stopsComeBehindTheMatching();
        stopsAreNoPartOfTheAnswer();
        aStopMayMeetItsOwner();
        Check.end();
    }

    private static void noStopIsDueBeforeTheFirstFill() {
        MatchFloor x = new MatchFloor();
        Check.due("a stop that buys at 1", Floors.stop(x, 1, 0, Check.BUY, 1, 5), 0);
        Check.due("a stop that sells at 10000", Floors.stop(x, 2, 0, Check.SELL, 10000, 5), 0);
        Check.due("view", Check.view(x, 1, 2), "buy sell #1 2 1 5 0 #2 3 10000 5 1 fills 0 last 0 turnover 0 figures 2 2 0 0 0");
    }

    private static void buyersAreDueAtTheirPriceOrMore() {
        MatchFloor x = new MatchFloor();
        Floors.stop(x, 1, 0, Check.BUY, 50, 5);
        Floors.trade(x, 49);
        Check.due("one below", x.figure(1), 1);
        Floors.trade(x, 50);
        Check.due("at its price", x.figure(1), 0);
        Floors.stop(x, 2, 0, Check.BUY, 60, 5);
        Floors.trade(x, 70);
        Check.due("above", x.figure(1), 0);
        Check.due("figure(2)", x.figure(2), 2);
    }

    private static void sellersAreDueAtTheirPriceOrLess() {
        MatchFloor x = new MatchFloor();
        Floors.stop(x, 1, 0, Check.SELL, 50, 5);
        Floors.trade(x, 51);
        Check.due("one above", x.figure(1), 1);
        Floors.trade(x, 50);
        Check.due("at its price", x.figure(1), 0);
        Floors.stop(x, 2, 0, Check.SELL, 40, 5);
        Floors.trade(x, 30);
        Check.due("below", x.figure(1), 0);
        Check.due("figure(2)", x.figure(2), 2);
    }

    private static void aStopMayBeDueAtOnce() {
        MatchFloor x = new MatchFloor();
        Floors.trade(x, 50);
        Floors.limit(x, 1, 0, Check.SELL, 80, 3);
        Check.due("a stop that is due", Floors.stop(x, 2, 1, Check.BUY, 50, 2), 0);
        Check.due("view", Check.view(x, 1), "buy sell 80/1/1 #1 1 80 1 0 fills 2 (2 1 80 2) (1001 1000 50 1)"
                + " last 80 turnover 210 figures 1 0 1 0 3");
        Check.due("a stop that waits", Floors.stop(x, 3, 1, Check.SELL, 79, 2), 0);
        Check.due("figure(1)", x.figure(1), 1);
    }

    private static void whatIsLeftOfAStopIsGone() {
        MatchFloor x = new MatchFloor();
        Floors.trade(x, 50);
        Floors.limit(x, 1, 0, Check.BUY, 2, 3);
        Floors.stop(x, 2, 1, Check.SELL, 50, 10);
        Check.due("view", Check.view(x), "buy sell fills 2 (2 1 2 3) (1001 1000 50 1) last 2 turnover 56 figures 0 0 1 0 4");
    }

    private static void theEarliestDueStopComesFirst() {
        MatchFloor x = new MatchFloor();
        Floors.limit(x, 1, 0, Check.SELL, 100, 1);
        Floors.limit(x, 2, 0, Check.SELL, 101, 4);
        Floors.stop(x, 7, 1, Check.BUY, 100, 2);
        Floors.stop(x, 5, 1, Check.BUY, 90, 2);
        Floors.stop(x, 6, 1, Check.BUY, 102, 2);
        Check.due("the trade", Floors.limit(x, 9, 2, Check.BUY, 100, 1), 1);
        Check.due("view", Check.view(x, 6), "buy sell #6 18 102 2 0 fills 3 (5 2 101 2) (7 2 101 2) (9 1 100 1)"
                + " last 101 turnover 504 figures 1 1 2 0 5");
    }

    private static void aStopMakesOthersDue() {
        MatchFloor x = new MatchFloor();
        Floors.limit(x, 1, 0, Check.SELL, 100, 1);
        Floors.limit(x, 2, 0, Check.SELL, 110, 1);
        Floors.limit(x, 3, 0, Check.SELL, 120, 1);
        Floors.limit(x, 4, 0, Check.SELL, 130, 1);
        Floors.stop(x, 5, 1, Check.BUY, 120, 1);
        Floors.stop(x, 6, 1, Check.BUY, 110, 1);
        Floors.stop(x, 7, 1, Check.BUY, 100, 1);
        Floors.stop(x, 8, 1, Check.BUY, 131, 1);
        Check.due("the trade", Floors.limit(x, 9, 2, Check.BUY, 100, 1), 1);
        Check.due("view", Check.view(x, 8), "buy sell #8 18 131 1 0 fills 4 (5 4 130 1) (6 3 120 1) (7 2 110 1) (9 1 100 1)"
                + " last 130 turnover 460 figures 1 1 3 0 4");
    }

    /** The stop is due by the first fill at 100, yet the one that came in goes on to 101 before it. */
    private static void stopsComeBehindTheMatching() {
        MatchFloor x = new MatchFloor();
        Floors.limit(x, 1, 0, Check.SELL, 100, 1);
        Floors.limit(x, 2, 0, Check.SELL, 101, 1);
        Floors.limit(x, 3, 0, Check.SELL, 102, 1);
        Floors.stop(x, 4, 1, Check.BUY, 100, 1);
        Check.due("a buyer of two", Floors.limit(x, 5, 2, Check.BUY, 101, 2), 2);
        Check.due("the fill of the stop", x.fill(0, 0), 4);
        Check.due("its price", x.fill(0, 2), 102);
        // Only a stop that is due behind the matching counts: the fill at 100 is no longer the last.
        MatchFloor y = new MatchFloor();
        Floors.limit(y, 1, 0, Check.SELL, 100, 1);
        Floors.limit(y, 2, 0, Check.SELL, 101, 1);
        Floors.stop(y, 3, 1, Check.SELL, 100, 1);
        Check.due("a buyer of two", Floors.limit(y, 4, 2, Check.BUY, 101, 2), 2);
        Check.due("it waits still", y.order(3, 0), 19);
    }

    /** What comes to rest is met by the stop that its own fill made due. */
    private static void stopsAreNoPartOfTheAnswer() {
        MatchFloor x = new MatchFloor();
        Floors.limit(x, 1, 0, Check.SELL, 100, 2);
        Floors.stop(x, 2, 1, Check.SELL, 100, 4);
        Check.due("a buyer of five", Floors.limit(x, 3, 2, Check.BUY, 100, 5), 2);
        Check.due("view", Check.view(x), "buy sell fills 2 (2 3 100 3) (3 1 100 2) last 100 turnover 500 figures 0 0 1 0 5");
    }

    private static void aStopMayMeetItsOwner() {
        MatchFloor x = new MatchFloor();
        Floors.trade(x, 50);
        Floors.limit(x, 1, 3, Check.SELL, 80, 3);
        Floors.limit(x, 2, 4, Check.SELL, 81, 3);
        Floors.stop(x, 3, 3, Check.BUY, 50, 2);
        Check.due("view", Check.view(x, 2), "buy sell 81/1/1 #2 65 81 1 0 fills 2 (3 2 81 2) (1001 1000 50 1)"
                + " last 81 turnover 212 figures 1 0 1 1 3");
    }
}
