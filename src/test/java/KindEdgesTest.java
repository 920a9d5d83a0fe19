/** The edges of the kinds: nothing, one or all of it filled, just enough for ALL, just too near for QUIET. */
public final class KindEdgesTest {
    public static void main(String[] args) {
        whatIsLeftOfEachKind();
        allNeedsJustEnough();
        allCountsWhatItsPriceFits();
        allCountsNoneOfItsOwner();
        allCountsNoneThatWaits();
        allOfAFullBook();
        quietRestsJustBehindTheFirst();
        quietLooksAtTheFirstAlone();
        quietAndAnEmptyBook();
        stopsAreNeverRefused();
        onlyAllAndQuietAreRefused();
        Check.end();
    }

    /** Five rest on the other side; the kinds differ in what becomes of a sixth. */
    private static void whatIsLeftOfEachKind() {
        int[] kinds = {MatchFloor.LIMIT, MatchFloor.MARKET, MatchFloor.AT_ONCE};
        for (int kind : kinds) {
            for (int side = 0; side < 2; side++) {
                for (int quantity = 4; quantity <= 6; quantity++) {
                    MatchFloor x = new MatchFloor();
                    Floors.limit(x, 1, 0, 1 - side, 50, 5);
                    String when = "kind " + kind + " of " + quantity;
                    Check.due(when, Floors.put(x, kind, 2, 1, side, 50, quantity), Math.min(5, quantity));
                    if (kind == MatchFloor.LIMIT && quantity == 6) {
                        Check.dueOrder(when, x, 2, 16 + side, 50, 1, 0);
                    } else {
                        Check.dueGone(when, x, 2);
                    }
                    Check.due("levels of the other", x.levels(1 - side), quantity < 5 ? 1 : 0);
                }
            }
        }
    }

    private static void allNeedsJustEnough() {
        for (int side = 0; side < 2; side++) {
            int how = Check.how(1, MatchFloor.ALL, side);
            MatchFloor empty = new MatchFloor();
            Check.dueThrow("one of nothing", Check.STATE, () -> empty.submit(9, how, 50, 1));
            MatchFloor x = new MatchFloor();
            Floors.limit(x, 1, 0, 1 - side, 50, 2);
            Floors.limit(x, 2, 2, 1 - side, 50, 3);
            Check.dueThrow("six of five", Check.STATE, () -> x.submit(9, how, 50, 6));
            Check.dueFigures("nothing happened", x, 2, 0, 0, 0, 0);
            Check.due("four of five", x.submit(9, how, 50, 4), 4);
            Check.dueThrow("two of one", Check.STATE, () -> x.submit(9, how, 50, 2));
            Check.due("one of one", x.submit(9, how, 50, 1), 1);
            Check.dueFigures("all is filled", x, 0, 0, 0, 0, 5);
            Check.dueGone("it never rests", x, 9);
        }
    }

    private static void allCountsWhatItsPriceFits() {
        for (int side = 0; side < 2; side++) {
            int how = Check.how(1, MatchFloor.ALL, side);
            int worse = side == Check.BUY ? 1 : -1;
            MatchFloor x = new MatchFloor();
            Floors.limit(x, 1, 0, 1 - side, 50, 2);
            Floors.limit(x, 2, 0, 1 - side, 50 + worse, 3);
            Check.dueThrow("none at all fits", Check.STATE, () -> x.submit(9, how, 50 - worse, 1));
            Check.dueThrow("three, and two fit", Check.STATE, () -> x.submit(9, how, 50, 3));
            Check.dueThrow("six, and five fit", Check.STATE, () -> x.submit(9, how, 50 + worse, 6));
            Check.due("five fit", x.submit(9, how, 50 + worse, 5), 5);
        }
    }

    private static void allCountsNoneOfItsOwner() {
        MatchFloor x = new MatchFloor();
        Floors.limit(x, 1, 1, Check.SELL, 49, 100);
        int how = Check.how(1, MatchFloor.ALL, Check.BUY);
        Check.dueThrow("only its owner's", Check.STATE, () -> x.submit(9, how, 50, 1));
        Floors.limit(x, 2, 0, Check.SELL, 50, 2);
        Check.dueThrow("three of two", Check.STATE, () -> x.submit(9, how, 50, 3));
        Check.dueOrder("its owner's stays", x, 1, 17, 49, 100, 0);
        Check.due("two of two", x.submit(9, how, 50, 2), 2);
        Check.dueFigures("its owner's is gone", x, 0, 0, 0, 1, 2);
    }

    private static void allCountsNoneThatWaits() {
        MatchFloor x = new MatchFloor();
        Floors.stop(x, 1, 0, Check.SELL, 50, 100);
        Floors.limit(x, 2, 0, Check.BUY, 50, 100);
        int how = Check.how(1, MatchFloor.ALL, Check.BUY);
        Check.dueThrow("a stop and one of its own side", Check.STATE, () -> x.submit(9, how, 50, 1));
    }

    private static void allOfAFullBook() {
        MatchFloor x = new MatchFloor();
        for (int id = 0; id < 39; id++) {
            Floors.limit(x, id, 0, Check.SELL, 10000, 1000000);
        }
        int how = Check.how(1, MatchFloor.ALL, Check.BUY);
        Check.due("a million of 39", x.submit(40, how, 10000, 1000000), 1000000);
        Check.due("figure(0)", x.figure(0), 38);
        Check.due("the next", x.order(1, 3), 0);
    }

    private static void quietRestsJustBehindTheFirst() {
        for (int side = 0; side < 2; side++) {
            int how = Check.how(1, MatchFloor.QUIET, side);
            int nearer = side == Check.BUY ? 1 : -1;
            MatchFloor x = new MatchFloor();
            Floors.limit(x, 1, 0, 1 - side, 50, 1);
            Check.dueThrow("beyond its price", Check.STATE, () -> x.submit(2, how, 50 + nearer, 1));
            Check.dueThrow("at its price", Check.STATE, () -> x.submit(2, how, 50, 1));
            Check.due("one short of it", x.submit(2, how, 50 - nearer, 1000000), 0);
            Check.dueOrder("it rests", x, 2, 16 + side, 50 - nearer, 1000000, 0);
            Check.dueFigures("nothing met", x, 2, 0, 0, 0, 0);
        }
    }

    private static void quietLooksAtTheFirstAlone() {
        MatchFloor x = new MatchFloor();
        Floors.limit(x, 1, 0, Check.SELL, 50, 1);
        Floors.limit(x, 2, 1, Check.SELL, 40, 1);
        Floors.limit(x, 3, 0, Check.SELL, 60, 1);
        int how = Check.how(1, MatchFloor.QUIET, Check.BUY);
        Check.dueThrow("the first, though of its owner", Check.STATE, () -> x.submit(9, how, 40, 1));
        Check.due("one below the first", x.submit(9, how, 39, 1), 0);
        Check.dueFigures("nothing met", x, 4, 0, 0, 0, 0);
    }

    private static void quietAndAnEmptyBook() {
        int[] prices = {1, 10000};
        for (int price : prices) {
            for (int side = 0; side < 2; side++) {
                MatchFloor x = new MatchFloor();
                Floors.stop(x, 1, 0, 1 - side, 50, 1);
                Floors.limit(x, 2, 0, side, 50, 1);
                Check.due("nothing on the other side", Floors.put(x, MatchFloor.QUIET, 3, 1, side, price, 1), 0);
                Check.dueOrder("it rests", x, 3, 16 + side, price, 1, 0);
            }
        }
    }

    private static void stopsAreNeverRefused() {
        for (int side = 0; side < 2; side++) {
            for (int price = 49; price <= 51; price++) {
                MatchFloor x = new MatchFloor();
                Floors.limit(x, 1, 0, 1 - side, 50, 1);
                Check.due("a stop", Floors.stop(x, 2, 0, side, price, 1000000), 0);
                Check.dueOrder("it waits", x, 2, 2 + side, price, 1000000, 0);
            }
        }
    }

    private static void onlyAllAndQuietAreRefused() {
        for (int kind = 0; kind < 6; kind++) {
            MatchFloor x = Floors.busy();
            int how = Check.how(7, kind, Check.BUY);
            boolean isRefused = kind == MatchFloor.ALL || kind == MatchFloor.QUIET;
            Check.due("kind " + kind + " for more than there is", Check.answer(() -> x.submit(9, how, 60, 100)),
                    isRefused ? "throws.IllegalStateException" : kind == MatchFloor.STOP ? "0" : "15");
        }
    }
}
