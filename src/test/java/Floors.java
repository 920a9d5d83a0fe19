/** Orders that come in by plain words, and floors in the states at whose edges the tests stand. */
final class Floors {
    static final int FREE_ID = 777;

    private Floors() {
    }

    static int put(MatchFloor x, int kind, int id, int owner, int side, int price, int quantity) {
        return x.submit(id, Check.how(owner, kind, side), price, quantity);
    }

    static int limit(MatchFloor x, int id, int owner, int side, int price, int quantity) {
        return put(x, MatchFloor.LIMIT, id, owner, side, price, quantity);
    }

    static int market(MatchFloor x, int id, int owner, int side, int quantity) {
        return put(x, MatchFloor.MARKET, id, owner, side, 1, quantity);
    }

    static int stop(MatchFloor x, int id, int owner, int side, int price, int quantity) {
        return put(x, MatchFloor.STOP, id, owner, side, price, quantity);
    }

    /** A fill of 1 at a price that leaves nothing kept; the book must hold nothing at this price or a better one. */
    static void trade(MatchFloor x, int price) {
        limit(x, 1000, 6, Check.SELL, price, 1);
        limit(x, 1001, 7, Check.BUY, price, 1);
    }

    static MatchFloor empty() {
        return new MatchFloor();
    }

    /**
     * Ids 1 to 3 sell (4 at 50, 5 at 50, 6 at 60), 4 and 5 buy (7 at 40, 8 at 30), 6 and 7 wait (to buy from 70
     * on, to sell from 20 on); owners 0 to 6. There were a fill at 50 and a meeting of one owner.
     */
    static MatchFloor busy() {
        MatchFloor x = new MatchFloor();
        limit(x, 1, 0, Check.SELL, 50, 10);
        limit(x, 2, 1, Check.SELL, 50, 5);
        limit(x, 3, 2, Check.SELL, 60, 6);
        limit(x, 8, 7, Check.SELL, 45, 1);
        market(x, 9, 7, Check.BUY, 6);
        limit(x, 4, 3, Check.BUY, 40, 7);
        limit(x, 5, 4, Check.BUY, 30, 8);
        stop(x, 6, 5, Check.BUY, 70, 9);
        stop(x, 7, 6, Check.SELL, 20, 10);
        return x;
    }

    /** 40 are kept, ids 0 to 39: 20 sell at 51 to 54, 10 buy at 40, 10 wait; there were 33 fills at 50. */
    static MatchFloor full() {
        MatchFloor x = new MatchFloor();
        for (int n = 0; n < 33; n++) {
            limit(x, n, 6, Check.SELL, 50, 1);
        }
        market(x, 40, 7, Check.BUY, 33);
        for (int id = 0; id < 20; id++) {
            limit(x, id, 0, Check.SELL, 51 + id / 5, 1 + id);
        }
        for (int id = 20; id < 30; id++) {
            limit(x, id, 1, Check.BUY, 40, 1 + id);
        }
        for (int id = 30; id < 40; id++) {
            stop(x, id, 2, id % 2, id % 2 == Check.BUY ? 60 : 30, 1 + id);
        }
        return x;
    }
}
