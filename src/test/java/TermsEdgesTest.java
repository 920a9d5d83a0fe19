/** The edges of the terms: ids, what may be kept, the book, when a price fits, where matching ends. */
public final class TermsEdgesTest {
    public static void main(String[] args) {
        anIdIsAnyInt();
        oneLeftIsKeptAndNoneLeftIsNot();
        noTwoKeptOrdersHaveTheSameId();
        anIdIsFreeOnceItsOrderIsGone();
        fortyRest();
        fortyWait();
        whoComesStandsBehindAll();
        theBetterPriceComesFirstAtBothEnds();
        aPriceFitsFromEqualityOn();
        noPriceFitsEveryOrder();
        matchingEndsWithNothingLeft();
        matchingEndsWithAnEmptyBook();
        aWholeBookOfTheSameOwnerIsCancelled();
        theLesserQuantityIsFilled();
        aFillMayBeAsLargeAsAnOrder();
        thirtyNineAreFilledByOne();
        theLastPriceIsThatOfTheLatestFill();
        anObjectServes512Calls();
        Check.end();
    }

    private static void anIdIsAnyInt() {
        int[] ids = {Integer.MIN_VALUE, Integer.MIN_VALUE + 1, -1, 0, 1, Integer.MAX_VALUE - 1, Integer.MAX_VALUE};
        for (int id : ids) {
            MatchFloor x = new MatchFloor();
            Check.due("submit(" + id + ")", Floors.limit(x, id, 0, Check.SELL, 10, 5), 0);
            Check.dueOrder("a kept one", x, id, 1, 10, 5, 0);
            Check.due("amend(" + id + ")", x.amend(id, 11, 6), 0);
            Floors.market(x, 12, 1, Check.BUY, 1);
            Check.dueFill("it rested", x, 0, 12, id, 11, 1);
            Check.due("cancel(" + id + ")", x.cancel(id), 5);
            Floors.limit(x, 13, 1, Check.BUY, 10, 1);
            Check.due("it comes in", Floors.market(x, id, 0, Check.SELL, 1), 1);
            Check.dueFill("it came in", x, 0, id, 13, 10, 1);
            Floors.stop(x, id, 0, Check.BUY, 11, 5);
            Check.dueOrder("a waiting one", x, id, 2, 11, 5, 0);
        }
    }

    private static void oneLeftIsKeptAndNoneLeftIsNot() {
        for (int side = 0; side < 2; side++) {
            MatchFloor x = new MatchFloor();
            Floors.limit(x, 1, 0, side, 10, 3);
            Check.due("two of three", Floors.limit(x, 2, 1, 1 - side, 10, 2), 2);
            Check.dueOrder("one is left", x, 1, side, 10, 1, 0);
            Check.dueGone("nothing of it was left", x, 2);
            Check.due("one of two", Floors.limit(x, 3, 1, 1 - side, 10, 2), 1);
            Check.dueGone("none is left", x, 1);
            Check.dueOrder("one rests", x, 3, 16 + 1 - side, 10, 1, 0);
            Check.due("figure(0)", x.figure(0), 1);
        }
    }

    private static void noTwoKeptOrdersHaveTheSameId() {
        for (int kind = 0; kind < 6; kind++) {
            for (int side = 0; side < 2; side++) {
                int how = Check.how(3, kind, side);
                MatchFloor x = Floors.busy();
                for (int id = 1; id <= 7; id++) {
                    int kept = id;
                    Check.dueThrow("submit(" + id + ", " + how + ")", Check.STATE, () -> x.submit(kept, how, 45, 1));
                }
                x.amend(1, 52, 4);
                x.amend(6, 80, 4);
                Check.dueThrow("an amended one rests still", Check.STATE, () -> x.submit(1, how, 45, 1));
                Check.dueThrow("an amended one waits still", Check.STATE, () -> x.submit(6, how, 45, 1));
            }
        }
    }

    private static void anIdIsFreeOnceItsOrderIsGone() {
        MatchFloor x = new MatchFloor();
        Floors.limit(x, 1, 0, Check.SELL, 10, 1);
        Floors.limit(x, 2, 1, Check.BUY, 10, 1);
        Check.due("of a filled one", Floors.limit(x, 1, 0, Check.SELL, 10, 1), 0);
        Check.due("of one that filled it", Floors.market(x, 2, 0, Check.BUY, 1), 0);
        Check.due("of one that met its owner", Floors.limit(x, 1, 0, Check.SELL, 10, 1), 0);
        x.cancel(1);
        Check.due("of a cancelled one", Floors.limit(x, 1, 0, Check.SELL, 10, 1), 0);
        x.withdraw(0);
        Check.due("of a withdrawn one", Floors.limit(x, 1, 1, Check.SELL, 10, 1), 0);
        Floors.stop(x, 3, 0, Check.BUY, 10, 2);
        Check.due("of a stop that was due", Floors.stop(x, 3, 0, Check.BUY, 11, 2), 0);
        Check.dueOrder("it waits now", x, 3, 2, 11, 2, 0);
    }

    private static void fortyRest() {
        for (int side = 0; side < 2; side++) {
            MatchFloor x = new MatchFloor();
            for (int id = 0; id < 40; id++) {
                Check.due("figure(0)", x.figure(0), id);
                Check.due("submit " + id, Floors.limit(x, id, id % 8, side, 100, 1000000), 0);
            }
            int how = Check.how(0, MatchFloor.LIMIT, side);
            Check.dueThrow("the forty-first", Check.STATE, () -> x.submit(40, how, 100, 1));
            Check.due("order(39, 3)", x.order(39, 3), 39);
            Check.dueFigures("forty rest", x, 40, 0, 0, 0, 0);
        }
    }

    private static void fortyWait() {
        MatchFloor x = new MatchFloor();
        for (int id = 0; id < 40; id++) {
            Check.due("submit " + id, Floors.stop(x, id, id % 8, id % 2, 100, 1000000), 0);
        }
        Check.dueThrow("the forty-first", Check.STATE, () -> Floors.stop(x, 40, 0, Check.BUY, 100, 1));
        Check.due("order(39, 3)", x.order(39, 3), 39);
        Check.dueFigures("forty wait", x, 40, 40, 0, 0, 0);
        x.cancel(0);
        Check.due("a place for one that rests", Floors.limit(x, 40, 0, Check.BUY, 100, 1), 0);
        Check.dueThrow("and for no other", Check.STATE, () -> Floors.limit(x, 41, 0, Check.BUY, 100, 1));
    }

    private static void whoComesStandsBehindAll() {
        MatchFloor x = new MatchFloor();
        Floors.limit(x, 3, 0, Check.SELL, 10, 1);
        Floors.stop(x, 9, 0, Check.SELL, 10, 1);
        Floors.put(x, MatchFloor.QUIET, 2, 0, Check.SELL, 10, 1);
        Floors.stop(x, 8, 0, Check.BUY, 10, 1);
        Floors.limit(x, 1, 1, Check.SELL, 10, 1);
        int[] resting = {3, 2, 1};
        for (int k = 0; k < 3; k++) {
            Check.due("order(" + resting[k] + ", 3)", x.order(resting[k], 3), k);
        }
        x.cancel(3);
        Floors.limit(x, 3, 0, Check.SELL, 10, 1);
        Check.due("one that comes again", x.order(3, 3), 2);
        Check.due("the first that waits", x.order(9, 3), 0);
        Check.due("the second that waits", x.order(8, 3), 1);
    }

    private static void theBetterPriceComesFirstAtBothEnds() {
        int[][] pairs = {{1, 2}, {9999, 10000}, {1, 10000}};
        for (int[] pair : pairs) {
            MatchFloor sellers = new MatchFloor();
            Floors.limit(sellers, 1, 0, Check.SELL, pair[1], 1);
            Floors.limit(sellers, 2, 0, Check.SELL, pair[0], 1);
            Floors.market(sellers, 3, 1, Check.BUY, 1);
            Check.dueFill("the lower seller", sellers, 0, 3, 2, pair[0], 1);
            MatchFloor buyers = new MatchFloor();
            Floors.limit(buyers, 1, 0, Check.BUY, pair[0], 1);
            Floors.limit(buyers, 2, 0, Check.BUY, pair[1], 1);
            Floors.market(buyers, 3, 1, Check.SELL, 1);
            Check.dueFill("the higher buyer", buyers, 0, 3, 2, pair[1], 1);
        }
    }

    private static void aPriceFitsFromEqualityOn() {
        int[] prices = {1, 2, 5000, 9999, 10000};
        int[] kinds = {MatchFloor.LIMIT, MatchFloor.AT_ONCE};
        for (int resting : prices) {
            for (int off = -1; off <= 1; off++) {
                int price = resting + off;
                if (price < 1 || price > 10000) {
                    continue;
                }
                for (int kind : kinds) {
                    MatchFloor sold = new MatchFloor();
                    Floors.limit(sold, 1, 0, Check.SELL, resting, 1);
                    Check.due("a buyer at " + price + " of a seller at " + resting,
                            Floors.put(sold, kind, 2, 1, Check.BUY, price, 1), off >= 0 ? 1 : 0);
                    MatchFloor bought = new MatchFloor();
                    Floors.limit(bought, 1, 0, Check.BUY, resting, 1);
                    Check.due("a seller at " + price + " to a buyer at " + resting,
                            Floors.put(bought, kind, 2, 1, Check.SELL, price, 1), off <= 0 ? 1 : 0);
                }
            }
        }
    }

    private static void noPriceFitsEveryOrder() {
        int[] prices = {1, 5000, 10000};
        for (int resting : prices) {
            for (int price : prices) {
                for (int side = 0; side < 2; side++) {
                    MatchFloor x = new MatchFloor();
                    Floors.limit(x, 1, 0, side, resting, 2);
                    Check.due("MARKET", Floors.put(x, MatchFloor.MARKET, 2, 1, 1 - side, price, 1), 1);
                    Check.due("at the resting price", x.last(), resting);
                    Floors.stop(x, 3, 1, 1 - side, resting, 1);
                    Check.dueFill("a stop", x, 0, 3, 1, resting, 1);
                }
            }
        }
    }

    /** Behind the last fill no order is looked at, not even to cancel it. */
    private static void matchingEndsWithNothingLeft() {
        MatchFloor x = new MatchFloor();
        Floors.limit(x, 1, 0, Check.SELL, 10, 1);
        Floors.limit(x, 2, 1, Check.SELL, 10, 1);
        Check.due("filled by the first", Floors.market(x, 3, 1, Check.BUY, 1), 1);
        Check.dueOrder("the own one", x, 2, 17, 10, 1, 0);
        Check.due("with one more it is", Floors.market(x, 3, 1, Check.BUY, 1), 0);
        Check.dueGone("the own one", x, 2);
        Check.dueFigures("behind it", x, 0, 0, 0, 1, 1);
    }

    private static void matchingEndsWithAnEmptyBook() {
        for (int side = 0; side < 2; side++) {
            MatchFloor x = new MatchFloor();
            Check.due("MARKET and nothing", Floors.market(x, 1, 0, side, 1000000), 0);
            Check.due("AT ONCE and nothing", Floors.put(x, MatchFloor.AT_ONCE, 1, 0, side, 50, 1000000), 0);
            Check.dueFigures("nothing came of it", x, 0, 0, 0, 0, 0);
            Check.due("LIMIT and nothing", Floors.limit(x, 1, 0, side, 50, 1000000), 0);
            Check.dueOrder("all of it rests", x, 1, side, 50, 1000000, 0);
        }
    }

    private static void aWholeBookOfTheSameOwnerIsCancelled() {
        for (int owner = 0; owner < 8; owner += 7) {
            MatchFloor x = new MatchFloor();
            for (int id = 0; id < 39; id++) {
                Floors.limit(x, id, owner, Check.SELL, 10 + id, 1);
            }
            Check.due("nothing is filled", Floors.limit(x, 40, owner, Check.BUY, 47, 1), 0);
            Check.dueFigures("the last does not fit", x, 2, 0, 0, 38, 0);
            Check.dueOrder("it stays", x, 38, 16 * owner + 1, 48, 1, 0);
            Check.due("last()", x.last(), 0);
            Check.due("fills()", x.fills(), 0);
            Check.due("nor by MARKET", Floors.market(x, 41, owner, Check.BUY, 1), 0);
            Check.dueFigures("it is gone", x, 1, 0, 0, 39, 0);
        }
    }

    private static void theLesserQuantityIsFilled() {
        int[][] rows = {{1, 1, 1}, {1, 2, 1}, {2, 1, 1}, {1, 1000000, 1}, {1000000, 1, 1},
            {999999, 1000000, 999999}, {1000000, 999999, 999999}};
        for (int[] row : rows) {
            MatchFloor x = new MatchFloor();
            Floors.limit(x, 1, 0, Check.SELL, 10, row[0]);
            Check.due(row[1] + " of " + row[0], Floors.limit(x, 2, 1, Check.BUY, 10, row[1]), row[2]);
            Check.dueFill("the fill", x, 0, 2, 1, 10, row[2]);
            Check.due("left of the sellers", x.levels(1) == 0 ? 0 : x.order(1, 2), row[0] - row[2]);
            Check.due("left of the buyers", x.levels(0) == 0 ? 0 : x.order(2, 2), row[1] - row[2]);
        }
    }

    private static void aFillMayBeAsLargeAsAnOrder() {
        MatchFloor x = new MatchFloor();
        Floors.limit(x, 1, 0, Check.SELL, 10000, 1000000);
        Check.due("all of it", Floors.limit(x, 2, 1, Check.BUY, 10000, 1000000), 1000000);
        Check.due("view", Check.view(x), "buy sell fills 1 (2 1 10000 1000000) last 10000 turnover 10000000000"
                + " figures 0 0 0 0 1000000");
    }

    private static void thirtyNineAreFilledByOne() {
        for (int side = 0; side < 2; side++) {
            MatchFloor x = new MatchFloor();
            for (int id = 0; id < 39; id++) {
                Floors.limit(x, id, 0, side, 100, 2);
            }
            Check.due("39 fills and a rest", Floors.limit(x, 40, 1, 1 - side, 100, 79), 78);
            Check.due("fills()", x.fills(), 39);
            Check.dueFill("the latest", x, 0, 40, 38, 100, 2);
            Check.dueFigures("the rest", x, 1, 0, 0, 0, 78);
            Check.dueOrder("the rest", x, 40, 16 + 1 - side, 100, 1, 0);
        }
    }

    private static void theLastPriceIsThatOfTheLatestFill() {
        MatchFloor x = new MatchFloor();
        Check.due("before the first", x.last(), 0);
        Floors.limit(x, 1, 0, Check.SELL, 1, 1);
        Floors.limit(x, 2, 0, Check.SELL, 10000, 1);
        Check.due("still before it", x.last(), 0);
        Floors.limit(x, 3, 1, Check.BUY, 10000, 1);
        Check.due("the least", x.last(), 1);
        Floors.limit(x, 4, 1, Check.BUY, 10000, 1);
        Check.due("the greatest", x.last(), 10000);
        Floors.limit(x, 5, 0, Check.BUY, 7, 1);
        Floors.limit(x, 6, 0, Check.BUY, 5, 1);
        Floors.market(x, 7, 1, Check.SELL, 2);
        Check.due("of two in one call", x.last(), 5);
        Floors.limit(x, 8, 0, Check.BUY, 8, 1);
        Floors.market(x, 9, 0, Check.SELL, 1);
        Check.due("a meeting of one owner is no fill", x.last(), 5);
        Check.dueThrow("nor is a refused order", Check.STATE, () -> Floors.put(x, MatchFloor.ALL, 9, 0, Check.SELL, 8, 1));
        Check.due("last()", x.last(), 5);
    }

    private static void anObjectServes512Calls() {
        MatchFloor x = new MatchFloor();
        for (int call = 1; call < 512; call += 2) {
            Check.due("call " + call, Floors.limit(x, 1, 0, Check.SELL, 10, 1000000), 0);
            Check.due("call " + (call + 1), Floors.limit(x, 2, 1, Check.BUY, 10, 1000000), 1000000);
        }
        MatchFloor y = new MatchFloor();
        for (int call = 1; call < 512; call++) {
            Floors.limit(y, call % 2, call % 2, call % 2, 10, 1);
        }
        Check.due("the 512th call", y.fills(), 255);
    }
}
