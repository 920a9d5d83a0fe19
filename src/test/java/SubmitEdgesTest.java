/** The edges of promise 2: the least and the greatest argument that is taken, the first beyond, and each state that is refused. */
public final class SubmitEdgesTest {
    private static final int[] NOT_PRICES = {Integer.MIN_VALUE, -10000, -1, 0, 10001, 20000, Integer.MAX_VALUE};
    private static final int[] NOT_QUANTITIES = {Integer.MIN_VALUE, -1000000, -1, 0, 1000001, 2000000, Integer.MAX_VALUE};

    public static void main(String[] args) {
        everyHowFromZeroTo127();
        howBeyondItsEnds();
        pricesAtTheirEnds();
        pricesBeyondTheirEnds();
        quantitiesAtTheirEnds();
        quantitiesBeyondTheirEnds();
        theAnswerIsFromNothingToAll();
        theAnswerComesBeforeTheStops();
        aKeptIdIsRefused();
        fortyAreTakenAndNoMore();
        whoWouldEmptyAFullFloorIsRefusedToo();
        argumentsComeBeforeStates();
        Check.end();
    }

    /** Kinds 6 and 7 are named by how, yet they are none. */
    private static void everyHowFromZeroTo127() {
        for (int how = 0; how <= 127; how++) {
            int asked = how;
            int kind = how / 2 % 8;
            MatchFloor x = new MatchFloor();
            if (kind > 5) {
                Check.dueThrow("submit(1, " + how + ", 5, 5)", Check.ARGUMENT, () -> x.submit(1, asked, 5, 5));
            } else if (kind == MatchFloor.ALL) {
                Check.dueThrow("submit(1, " + how + ", 5, 5)", Check.STATE, () -> x.submit(1, asked, 5, 5));
            } else {
                Check.due("submit(1, " + how + ", 5, 5)", x.submit(1, how, 5, 5), 0);
            }
            int owner = how / 16;
            int side = how % 2;
            if (kind == MatchFloor.LIMIT || kind == MatchFloor.QUIET) {
                Check.dueOrder("how " + how, x, 1, 16 * owner + side, 5, 5, 0);
            } else if (kind == MatchFloor.STOP) {
                Check.dueOrder("how " + how, x, 1, 16 * owner + 2 + side, 5, 5, 0);
            } else {
                Check.dueGone("how " + how, x, 1);
            }
        }
    }

    private static void howBeyondItsEnds() {
        int[] hows = {-1, 128, -128, -127, -16, -2, 129, 144, 256, 1 << 16, 1 << 24, Integer.MIN_VALUE, Integer.MIN_VALUE + 1,
            Integer.MAX_VALUE - 15, Integer.MAX_VALUE};
        MatchFloor x = new MatchFloor();
        for (int how : hows) {
            Check.dueThrow("submit(1, " + how + ", 5, 5)", Check.ARGUMENT, () -> x.submit(1, how, 5, 5));
        }
        Check.due("figure(0)", x.figure(0), 0);
    }

    private static void pricesAtTheirEnds() {
        int[] prices = {1, 2, 9999, 10000};
        for (int price : prices) {
            for (int side = 0; side < 2; side++) {
                MatchFloor x = new MatchFloor();
                Check.due("LIMIT", Floors.limit(x, 1, 0, side, price, 5), 0);
                Check.due("QUIET", Floors.put(x, MatchFloor.QUIET, 2, 0, side, price, 5), 0);
                Check.due("STOP", Floors.stop(x, 3, 0, side, price, 5), 0);
                Check.due("MARKET", Floors.put(x, MatchFloor.MARKET, 4, 1, 1 - side, price, 1), 1);
                Check.dueGone("STOP at " + price + ", due by that fill", x, 3);
                Check.due("AT ONCE", Floors.put(x, MatchFloor.AT_ONCE, 4, 1, 1 - side, price, 1), 1);
                Check.due("ALL", Floors.put(x, MatchFloor.ALL, 4, 1, 1 - side, price, 1), 1);
                Check.dueOrder("LIMIT at " + price, x, 1, side, price, 2, 0);
                Check.dueOrder("QUIET at " + price, x, 2, side, price, 5, 1);
            }
        }
    }

    private static void pricesBeyondTheirEnds() {
        for (int kind = 0; kind < 6; kind++) {
            for (int side = 0; side < 2; side++) {
                MatchFloor x = Floors.busy();
                int how = Check.how(7, kind, side);
                for (int price : NOT_PRICES) {
                    Check.dueThrow("kind " + kind + " at " + price, Check.ARGUMENT, () -> x.submit(9, how, price, 1));
                }
                Check.dueFigures("nothing happened", x, 7, 2, 0, 1, 6);
            }
        }
    }

    private static void quantitiesAtTheirEnds() {
        int[] quantities = {1, 2, 999999, 1000000};
        for (int quantity : quantities) {
            for (int side = 0; side < 2; side++) {
                MatchFloor x = new MatchFloor();
                Check.due("LIMIT", Floors.limit(x, 1, 0, side, 50, quantity), 0);
                Check.due("QUIET", Floors.put(x, MatchFloor.QUIET, 2, 0, side, 50, quantity), 0);
                Check.due("STOP", Floors.stop(x, 3, 0, side, side == Check.BUY ? 51 : 49, quantity), 0);
                Check.dueOrder("STOP of " + quantity, x, 3, 2 + side, side == Check.BUY ? 51 : 49, quantity, 0);
                Check.due("MARKET", Floors.market(x, 4, 1, 1 - side, quantity), quantity);
                Check.dueOrder("QUIET of " + quantity, x, 2, side, 50, quantity, 0);
                Check.due("AT ONCE", Floors.put(x, MatchFloor.AT_ONCE, 4, 1, 1 - side, 50, quantity), quantity);
                Floors.limit(x, 5, 0, side, 50, quantity);
                Check.due("ALL", Floors.put(x, MatchFloor.ALL, 4, 1, 1 - side, 50, quantity), quantity);
                Check.dueFigures("quantity " + quantity, x, 1, 1, 0, 0, 3 * quantity);
            }
        }
    }

    private static void quantitiesBeyondTheirEnds() {
        for (int kind = 0; kind < 6; kind++) {
            for (int side = 0; side < 2; side++) {
                MatchFloor x = Floors.busy();
                int how = Check.how(7, kind, side);
                for (int quantity : NOT_QUANTITIES) {
                    Check.dueThrow("kind " + kind + " of " + quantity, Check.ARGUMENT, () -> x.submit(9, how, 45, quantity));
                }
                Check.dueFigures("nothing happened", x, 7, 2, 0, 1, 6);
            }
        }
    }

    private static void theAnswerIsFromNothingToAll() {
        MatchFloor x = new MatchFloor();
        Floors.limit(x, 1, 0, Check.SELL, 50, 10);
        Check.due("LIMIT and nothing", Floors.limit(x, 2, 1, Check.BUY, 49, 4), 0);
        Check.due("AT ONCE and nothing", Floors.put(x, MatchFloor.AT_ONCE, 3, 1, Check.BUY, 49, 4), 0);
        Check.due("LIMIT and one", Floors.limit(x, 3, 1, Check.BUY, 50, 1), 1);
        Check.due("MARKET and all", Floors.market(x, 3, 1, Check.BUY, 4), 4);
        Check.due("AT ONCE and all", Floors.put(x, MatchFloor.AT_ONCE, 3, 1, Check.BUY, 50, 4), 4);
        Check.due("LIMIT and one of two", Floors.limit(x, 3, 1, Check.BUY, 50, 2), 1);
        Check.due("MARKET and nothing", Floors.market(x, 4, 2, Check.BUY, 2), 0);
        Check.due("what a meeting takes away is not filled", Floors.limit(x, 4, 1, Check.SELL, 49, 2), 0);
        Check.dueFigures("two met their owner", x, 1, 0, 0, 2, 10);
    }

    private static void theAnswerComesBeforeTheStops() {
        MatchFloor x = new MatchFloor();
        Floors.limit(x, 1, 0, Check.SELL, 50, 1);
        Floors.stop(x, 2, 1, Check.SELL, 50, 1);
        Check.due("one by matching, one by the stop", Floors.limit(x, 3, 2, Check.BUY, 50, 2), 1);
        Check.dueGone("both are filled", x, 3);
        Floors.limit(x, 4, 0, Check.SELL, 50, 3);
        Check.due("a stop's own fill", Floors.stop(x, 5, 1, Check.BUY, 50, 3), 0);
        Check.due("fills()", x.fills(), 3);
    }

    private static void aKeptIdIsRefused() {
        for (int kind = 0; kind < 6; kind++) {
            MatchFloor x = new MatchFloor();
            Floors.limit(x, 1, 0, Check.SELL, 50, 10);
            Floors.stop(x, 2, 0, Check.BUY, 60, 10);
            int how = Check.how(1, kind, Check.BUY);
            int price = kind == MatchFloor.QUIET ? 49 : 50;
            for (int id = 1; id <= 2; id++) {
                int kept = id;
                Check.dueThrow("kind " + kind + " with id " + id, Check.STATE, () -> x.submit(kept, how, price, 10));
            }
            Check.due("kind " + kind + " with a free one", x.submit(3, how, price, 10), kind < MatchFloor.QUIET ? 10 : 0);
        }
    }

    private static void fortyAreTakenAndNoMore() {
        for (int kind = 0; kind < 6; kind++) {
            MatchFloor x = new MatchFloor();
            for (int id = 0; id < 39; id++) {
                Floors.limit(x, id, 0, Check.SELL, 50, 10);
            }
            int how = Check.how(1, kind, Check.BUY);
            int price = kind == MatchFloor.QUIET ? 49 : 50;
            String before = Check.answer(() -> x.submit(100, how, price, 5));
            Check.due("39 kept and kind " + kind, before, kind < MatchFloor.QUIET ? "5" : "0");
            while (x.figure(0) < 40) {
                Floors.limit(x, 200 + x.figure(0), 0, Check.SELL, 51, 10);
            }
            Check.dueThrow("40 kept and kind " + kind, Check.STATE, () -> x.submit(101, how, price, 5));
            x.cancel(38);
            Check.due("39 again and kind " + kind, x.submit(101, how, price, 5), kind < MatchFloor.QUIET ? 5 : 0);
        }
    }

    /** Also one that would leave fewer orders kept than there were. */
    private static void whoWouldEmptyAFullFloorIsRefusedToo() {
        MatchFloor x = new MatchFloor();
        for (int id = 0; id < 40; id++) {
            Floors.limit(x, id, id % 2, Check.SELL, 50, 1);
        }
        for (int kind = 0; kind < 4; kind++) {
            int how = Check.how(1, kind, Check.BUY);
            Check.dueThrow("kind " + kind, Check.STATE, () -> x.submit(100, how, 50, 20));
        }
        Check.dueFigures("nothing met", x, 40, 0, 0, 0, 0);
        x.cancel(39);
        Check.due("with one place", Floors.market(x, 100, 1, Check.BUY, 20), 20);
        Check.dueFigures("the floor is empty", x, 0, 0, 0, 19, 20);
    }

    private static void argumentsComeBeforeStates() {
        MatchFloor full = Floors.full();
        MatchFloor busy = Floors.busy();
        int all = Check.how(7, MatchFloor.ALL, Check.BUY);
        int quiet = Check.how(7, MatchFloor.QUIET, Check.BUY);
        int[][] wrong = {{-1, 50, 1}, {128, 50, 1}, {12, 50, 1}, {15, 50, 1}, {all, 0, 1000}, {all, 10001, 1000}, {all, 50, 0},
            {all, 50, 1000001}, {quiet, 0, 1}, {quiet, 10001, 1}, {quiet, 60, 0}, {quiet, 60, 1000001}};
        for (int[] row : wrong) {
            Check.dueThrow("a full floor", Check.ARGUMENT, () -> full.submit(Floors.FREE_ID, row[0], row[1], row[2]));
            Check.dueThrow("a full floor and a kept id", Check.ARGUMENT, () -> full.submit(0, row[0], row[1], row[2]));
            Check.dueThrow("a resting id", Check.ARGUMENT, () -> busy.submit(1, row[0], row[1], row[2]));
            Check.dueThrow("a waiting id", Check.ARGUMENT, () -> busy.submit(6, row[0], row[1], row[2]));
            Check.dueThrow("a free id", Check.ARGUMENT, () -> busy.submit(Floors.FREE_ID, row[0], row[1], row[2]));
        }
    }
}
