/** "Terms", one test for each of its sentences, in their order; what stands at their edges is in the edge tests. */
public final class TermsTest {
    public static void main(String[] args) {
        anOrderHasIdOwnerSidePriceAndLeft();
        keptOrdersRestOrWait();
        whoComesGetsATimeBehindAll();
        theBookGoesByPriceAndThenByTime();
        aLevelIsAllOfOneSideAndPrice();
        aPriceFits();
        matchingLooksAtTheFirstAsLongAsSomethingIsLeft();
        matchingEnds();
        oneOfTheSameOwnerIsCancelled();
        otherwiseThereIsAFill();
        theLastPriceIsThatOfTheLatestFill();
        waitingOrdersAreDue();
        theEarliestDueIsMatchedBehindTheMatching();
        limit();
        market();
        atOnce();
        all();
        quiet();
        stop();
        theExceptionNamedFirst();
        Check.end();
    }

    /**
     * "AN ORDER has an ID, any int, an OWNER 0 .. 7, a SIDE (0 buys, 1 sells), a PRICE 1 .. 10000 and a LEFT quantity, 1
     * or more."
     */
    private static void anOrderHasIdOwnerSidePriceAndLeft() {
        int[][] rows = {{Integer.MIN_VALUE, 1, 1}, {-1, 10000, 1000000}, {0, 1, 1000000}, {Integer.MAX_VALUE, 10000, 1}};
        for (int[] row : rows) {
            for (int owner = 0; owner < 8; owner++) {
                for (int side = 0; side < 2; side++) {
                    MatchFloor x = new MatchFloor();
                    Floors.limit(x, row[0], owner, side, row[1], row[2]);
                    Check.dueOrder("it rests", x, row[0], 16 * owner + side, row[1], row[2], 0);
                    MatchFloor y = new MatchFloor();
                    Floors.stop(y, row[0], owner, side, row[1], row[2]);
                    Check.dueOrder("it waits", y, row[0], 16 * owner + 2 + side, row[1], row[2], 0);
                }
            }
        }
    }

    /** "Orders that are KEPT either REST in the book or WAIT; no two kept orders have the same id; at most 40 are kept." */
    private static void keptOrdersRestOrWait() {
        MatchFloor x = new MatchFloor();
        for (int id = 0; id < 40; id++) {
            if (id % 2 == 0) {
                Floors.limit(x, id, 0, Check.SELL, 50, 1);
            } else {
                Floors.stop(x, id, 0, Check.SELL, 50, 1);
            }
            int again = id;
            Check.dueThrow("id " + id + " to rest", Check.STATE, () -> Floors.limit(x, again, 1, Check.SELL, 60, 1));
            Check.dueThrow("id " + id + " to wait", Check.STATE, () -> Floors.stop(x, again, 1, Check.BUY, 60, 1));
        }
        Check.due("what rests", x.level(Check.SELL, 0, 2), 20);
        Check.due("what waits", x.figure(1), 20);
        Check.dueThrow("the forty-first to rest", Check.STATE, () -> Floors.limit(x, 40, 1, Check.SELL, 60, 1));
        Check.dueThrow("the forty-first to wait", Check.STATE, () -> Floors.stop(x, 40, 1, Check.BUY, 60, 1));
        Check.due("figure(0)", x.figure(0), 40);
    }

    /** "An order that comes to rest or to wait does so behind all that did before (it gets a TIME)." */
    private static void whoComesGetsATimeBehindAll() {
        MatchFloor x = new MatchFloor();
        int[] resting = {5, 9, 1, 7};
        int[] waiting = {6, 2, 8};
        for (int k = 0; k < 4; k++) {
            Floors.limit(x, resting[k], k, Check.BUY, 50, 4 - k);
            if (k < 3) {
                Floors.stop(x, waiting[k], k, k % 2, 50 - k, 1);
            }
        }
        for (int k = 0; k < 4; k++) {
            Check.due("order(" + resting[k] + ", 3)", x.order(resting[k], 3), k);
        }
        for (int k = 0; k < 3; k++) {
            Check.due("order(" + waiting[k] + ", 3)", x.order(waiting[k], 3), k);
        }
        x.cancel(5);
        Floors.limit(x, 5, 0, Check.BUY, 50, 4);
        Check.due("one that comes again", x.order(5, 3), 3);
    }

    /**
     * "THE BOOK: of two resting orders of the same side the one with the better price (higher for those that buy, lower for
     * those that sell) comes first, of equal prices the one with the earlier time."
     */
    private static void theBookGoesByPriceAndThenByTime() {
        for (int side = 0; side < 2; side++) {
            int better = side == Check.BUY ? 1 : -1;
            MatchFloor x = new MatchFloor();
            Floors.limit(x, 5, 0, side, 50, 1);
            Floors.limit(x, 4, 0, side, 50 + better, 1);
            Floors.limit(x, 3, 0, side, 50, 1);
            Floors.limit(x, 2, 0, side, 50 - better, 1);
            Floors.limit(x, 1, 0, side, 50 + better, 1);
            Check.due("what meets all of them", Floors.market(x, 9, 1, 1 - side, 5), 5);
            int[] inTheirOrder = {4, 1, 5, 3, 2};
            for (int k = 0; k < 5; k++) {
                Check.due("number " + k + " of side " + side, x.fill(4 - k, 1), inTheirOrder[k]);
            }
        }
    }

    /**
     * "A LEVEL is all resting orders of one side and price; levels of a side are numbered 0, 1, .. from the best price."
     */
    private static void aLevelIsAllOfOneSideAndPrice() {
        MatchFloor x = new MatchFloor();
        int[] prices = {40, 42, 41, 42};
        for (int k = 0; k < 4; k++) {
            Floors.limit(x, k, k, Check.BUY, prices[k], 10 + k);
            Floors.limit(x, 10 + k, k, Check.SELL, 100 - prices[k], 20 + k);
        }
        Floors.stop(x, 20, 5, Check.BUY, 42, 1);
        Floors.stop(x, 21, 5, Check.SELL, 57, 1);
        Check.due("view", Check.view(x), "buy 42/24/2 41/12/1 40/10/1 sell 58/44/2 59/22/1 60/20/1"
                + " fills 0 last 0 turnover 0 figures 10 2 0 0 0");
    }

    /**
     * "A price FITS a resting order of the other side if a buyer's is not below, a seller's not above its price; NO PRICE
     * fits every one."
     */
    private static void aPriceFits() {
        for (int side = 0; side < 2; side++) {
            for (int price = 49; price <= 51; price++) {
                boolean fits = side == Check.BUY ? price >= 50 : price <= 50;
                MatchFloor x = new MatchFloor();
                Floors.limit(x, 1, 0, 1 - side, 50, 1);
                Check.due("side " + side + " at " + price, Floors.limit(x, 2, 1, side, price, 1), fits ? 1 : 0);
            }
            int[] ends = {1, 10000};
            for (int price : ends) {
                MatchFloor y = new MatchFloor();
                Floors.limit(y, 1, 0, 1 - side, price, 1);
                Check.due("no price and " + price, Floors.put(y, MatchFloor.MARKET, 2, 1, side, 10001 - price, 1), 1);
            }
        }
    }

    /**
     * "MATCHING an order that comes in (with a side, an owner, a price or none, a quantity left), as long as something of it
     * is left: the first order of the other side in the book is looked at."
     */
    private static void matchingLooksAtTheFirstAsLongAsSomethingIsLeft() {
        for (int side = 0; side < 2; side++) {
            MatchFloor x = new MatchFloor();
            Floors.limit(x, 1, 0, 1 - side, 50, 2);
            Floors.limit(x, 2, 1, 1 - side, 50, 2);
            Floors.limit(x, 3, 2, 1 - side, 50, 2);
            Check.due("four of six", Floors.limit(x, 4, 2, side, 50, 4), 4);
            Check.dueFill("the first", x, 1, 4, 1, 50, 2);
            Check.dueFill("the second", x, 0, 4, 2, 50, 2);
            // Of the same owner, and first now, but nothing is left to look at it.
            Check.dueOrder("the third", x, 3, 32 + 1 - side, 50, 2, 0);
            Check.dueFigures("two are filled", x, 1, 0, 0, 0, 4);
        }
    }

    /** "If there is none, or the price does not fit it, matching ends." */
    private static void matchingEnds() {
        for (int side = 0; side < 2; side++) {
            int worse = side == Check.BUY ? 1 : -1;
            MatchFloor x = new MatchFloor();
            Check.due("none", Floors.limit(x, 1, 0, side, 50, 5), 0);
            Check.due("none of the other side", Floors.limit(x, 2, 1, side, 50, 5), 0);
            x.cancel(1);
            x.cancel(2);
            Floors.limit(x, 3, 0, 1 - side, 50, 2);
            Floors.limit(x, 4, 1, 1 - side, 50 + worse, 2);
            Check.due("one fits", Floors.limit(x, 5, 1, side, 50, 5), 2);
            Check.dueOrder("the one that does not", x, 4, 16 + 1 - side, 50 + worse, 2, 0);
            Check.dueOrder("what is left", x, 5, 16 + side, 50, 3, 0);
        }
    }

    /** "If it has the same owner, it is taken out of the book (CANCELLED)." */
    private static void oneOfTheSameOwnerIsCancelled() {
        for (int side = 0; side < 2; side++) {
            for (int owner = 0; owner < 8; owner++) {
                MatchFloor x = new MatchFloor();
                Floors.limit(x, 1, owner, 1 - side, 50, 2);
                Floors.limit(x, 2, 7 - owner, 1 - side, 50, 2);
                Floors.limit(x, 3, owner, 1 - side, 50, 2);
                Check.due("owner " + owner, Floors.limit(x, 4, owner, side, 50, 3), 2);
                Check.dueGone("the first of its owner", x, 1);
                Check.dueGone("the second of its owner", x, 3);
                Check.dueOrder("what is left", x, 4, 16 * owner + side, 50, 1, 0);
                Check.dueFigures("two are cancelled", x, 1, 0, 0, 2, 2);
            }
        }
    }

    /**
     * "Otherwise there is a FILL, of the lesser one of both left quantities, at the resting order's price; both have so much
     * less left; a resting order with nothing left is gone."
     */
    private static void otherwiseThereIsAFill() {
        for (int side = 0; side < 2; side++) {
            int beyond = side == Check.BUY ? 10 : -10;
            for (int quantity = 2; quantity <= 4; quantity++) {
                MatchFloor x = new MatchFloor();
                Floors.limit(x, 1, 0, 1 - side, 50, 3);
                Check.due("of 3", Floors.limit(x, 2, 1, side, 50 + beyond, quantity), Math.min(3, quantity));
                Check.dueFill("the fill", x, 0, 2, 1, 50, Math.min(3, quantity));
                Check.due("fills()", x.fills(), 1);
                if (quantity == 2) {
                    Check.dueOrder("the resting one", x, 1, 1 - side, 50, 1, 0);
                } else {
                    Check.dueGone("the resting one", x, 1);
                }
                if (quantity == 4) {
                    Check.dueOrder("the one that came in", x, 2, 16 + side, 50 + beyond, 1, 0);
                } else {
                    Check.dueGone("the one that came in", x, 2);
                }
            }
        }
    }

    /** "The LAST price is that of the latest fill (0 before the first)." */
    private static void theLastPriceIsThatOfTheLatestFill() {
        MatchFloor x = new MatchFloor();
        Floors.limit(x, 1, 0, Check.SELL, 60, 1);
        Floors.limit(x, 2, 0, Check.SELL, 50, 1);
        Floors.market(x, 3, 0, Check.SELL, 1);
        Check.due("before the first", x.last(), 0);
        Floors.limit(x, 4, 1, Check.BUY, 70, 2);
        Check.due("behind fills at 50 and 60", x.last(), 60);
        Floors.trade(x, 20);
        Check.due("behind one at 20", x.last(), 20);
    }

    /**
     * "WAITING orders are STOPS: one that buys is DUE when the last price is its price or more, one that sells when the last
     * price is not 0 and its price or less."
     */
    private static void waitingOrdersAreDue() {
        for (int side = 0; side < 2; side++) {
            for (int last = 49; last <= 51; last++) {
                boolean isDue = side == Check.BUY ? last >= 50 : last <= 50;
                MatchFloor x = new MatchFloor();
                Floors.stop(x, 1, 0, side, 50, 1);
                Check.dueFigures("the last price is 0", x, 1, 1, 0, 0, 0);
                Floors.trade(x, last);
                Check.due("side " + side + ", last price " + last, x.figure(2), isDue ? 1 : 0);
                Check.due("what waits still", x.figure(1), isDue ? 0 : 1);
            }
        }
    }

    /**
     * "Behind the matching in a call, as long as some waiting order is due: the one of these with the earliest time is kept
     * no more, and matched without a price; what is left of it then is gone."
     */
    private static void theEarliestDueIsMatchedBehindTheMatching() {
        MatchFloor x = new MatchFloor();
        Floors.limit(x, 1, 0, Check.SELL, 50, 1);
        Floors.limit(x, 2, 0, Check.SELL, 51, 1);
        Floors.limit(x, 3, 0, Check.SELL, 60, 1);
        Floors.limit(x, 4, 0, Check.SELL, 70, 1);
        Floors.stop(x, 9, 1, Check.BUY, 65, 5);
        Floors.stop(x, 8, 1, Check.BUY, 51, 1);
        Floors.stop(x, 7, 1, Check.BUY, 50, 1);
        Floors.stop(x, 6, 1, Check.BUY, 71, 1);
        Check.due("the matching", Floors.limit(x, 5, 2, Check.BUY, 51, 2), 2);
        // 9 is the earliest, but due only by the fill of 7; 6 is never due.
        Check.due("view", Check.view(x, 6), "buy sell #6 18 71 1 0 fills 4 (7 4 70 1) (8 3 60 1) (5 2 51 1) (5 1 50 1)"
                + " last 70 turnover 231 figures 1 1 3 0 4");
        Check.dueGone("what is left of a stop", x, 9);
    }

    /** "0 LIMIT: matched with its price; what is left rests." */
    private static void limit() {
        MatchFloor x = twoSellers();
        Check.due("LIMIT", x.submit(9, Check.how(1, 0, Check.BUY), 50, 5), 2);
        Check.due("view", Check.view(x, 9), "buy 50/3/1 sell 51/2/1 #9 16 50 3 0 fills 1 (9 1 50 2)"
                + " last 50 turnover 100 figures 2 0 0 0 2");
    }

    /** "1 MARKET: matched without a price; what is left is gone." */
    private static void market() {
        MatchFloor x = twoSellers();
        Check.due("MARKET", x.submit(9, Check.how(1, 1, Check.BUY), 1, 5), 4);
        Check.due("view", Check.view(x), "buy sell fills 2 (9 2 51 2) (9 1 50 2) last 51 turnover 202 figures 0 0 0 0 4");
    }

    /** "2 AT ONCE: matched with its price; what is left is gone." */
    private static void atOnce() {
        MatchFloor x = twoSellers();
        Check.due("AT_ONCE", x.submit(9, Check.how(1, 2, Check.BUY), 50, 5), 2);
        Check.due("view", Check.view(x), "buy sell 51/2/1 fills 1 (9 1 50 2) last 50 turnover 100 figures 1 0 0 0 2");
    }

    /**
     * "3 ALL: likewise, but refused if the resting orders of the other side that its price fits, without those of its owner,
     * have less left in all than its quantity."
     */
    private static void all() {
        MatchFloor x = twoSellers();
        Floors.limit(x, 3, 1, Check.SELL, 50, 100);
        Floors.stop(x, 4, 0, Check.SELL, 1, 100);
        Floors.limit(x, 5, 0, Check.BUY, 49, 100);
        Check.dueThrow("3 of the 2 that fit", Check.STATE, () -> x.submit(9, Check.how(1, 3, Check.BUY), 50, 3));
        Check.dueThrow("5 of the 4 that fit", Check.STATE, () -> x.submit(9, Check.how(1, 3, Check.BUY), 51, 5));
        Check.dueFigures("nothing happened", x, 5, 1, 0, 0, 0);
        Check.due("4 of the 4 that fit", x.submit(9, Check.how(1, 3, Check.BUY), 51, 4), 4);
        Check.due("view", Check.view(x), "buy 49/100/1 sell fills 2 (9 2 51 2) (9 1 50 2)"
                + " last 51 turnover 202 figures 2 1 0 1 4");
    }

    /** "4 QUIET: refused if its price fits the first order of the other side; else it rests." */
    private static void quiet() {
        for (int owner = 0; owner < 2; owner++) {
            int how = Check.how(owner, 4, Check.BUY);
            MatchFloor x = twoSellers();
            Check.dueThrow("it fits the first", Check.STATE, () -> x.submit(9, how, 50, 1));
            Check.dueFigures("nothing happened", x, 2, 0, 0, 0, 0);
            Check.due("it does not", x.submit(9, how, 49, 1), 0);
            Check.dueOrder("it rests", x, 9, 16 * owner, 49, 1, 0);
            Check.dueFigures("nothing met", x, 3, 0, 0, 0, 0);
        }
    }

    /** "5 STOP: it waits (and may be due in the same call)." */
    private static void stop() {
        MatchFloor x = twoSellers();
        int how = Check.how(1, 5, Check.BUY);
        Check.due("before the first fill", x.submit(9, how, 50, 1), 0);
        Check.dueOrder("it waits", x, 9, 18, 50, 1, 0);
        x.cancel(9);
        Floors.trade(x, 40);
        Check.due("above the last price", x.submit(8, how, 41, 1), 0);
        Check.dueOrder("it waits", x, 8, 18, 41, 1, 0);
        Check.due("at the last price", x.submit(9, how, 40, 1), 0);
        Check.dueFill("it was due, and made the other due", x, 1, 9, 1, 50, 1);
        Check.dueFill("the other", x, 0, 8, 1, 50, 1);
        Check.dueFigures("both were due", x, 1, 0, 2, 0, 3);
    }

    /** Ids 1 and 2 of owner 0 sell 2 at 50 and 2 at 51. */
    private static MatchFloor twoSellers() {
        MatchFloor x = new MatchFloor();
        Floors.limit(x, 1, 0, Check.SELL, 50, 2);
        Floors.limit(x, 2, 0, Check.SELL, 51, 2);
        return x;
    }

    /** "Of several exceptions that could be thrown the one named first is; such a call changes nothing." */
    private static void theExceptionNamedFirst() {
        MatchFloor x = twoSellers();
        String before = Check.view(x, 1, 2);
        Check.dueThrow("submit: price, and a kept id", Check.ARGUMENT, () -> x.submit(1, 0, 0, 1));
        Check.dueThrow("submit: how, and a kept id", Check.ARGUMENT, () -> x.submit(1, 12, 50, 1));
        Check.dueThrow("submit: quantity, and refused", Check.ARGUMENT, () -> x.submit(9, Check.how(1, 4, 0), 50, 0));
        Check.dueThrow("amend: price, and no such id", Check.ARGUMENT, () -> x.amend(9, 0, 1));
        Check.dueThrow("amend: quantity, and no such id", Check.ARGUMENT, () -> x.amend(9, 1, 0));
        Check.dueThrow("level: what, and no such level", Check.ARGUMENT, () -> x.level(1, 2, 3));
        Check.dueThrow("level: side, and no such level", Check.ARGUMENT, () -> x.level(2, 2, 0));
        Check.dueThrow("order: no such id, and what", Check.ELEMENT, () -> x.order(9, 4));
        Check.dueThrow("fill: what, and no such fill", Check.ARGUMENT, () -> x.fill(0, 4));
        Check.due("view", Check.view(x, 1, 2), before);
    }
}
