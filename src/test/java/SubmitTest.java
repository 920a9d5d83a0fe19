/** Promise 2: the arguments of submit, its exceptions and their order; MatchingTest, KindsTest and StopTest have the rest. */
public final class SubmitTest {
    private static final int LIMIT_BUY = Check.how(0, MatchFloor.LIMIT, Check.BUY);
    private static final int LIMIT_SELL = Check.how(0, MatchFloor.LIMIT, Check.SELL);

    public static void main(String[] args) {
        howIsTakenApart();
        anyIntIsAnId();
        edgesAreLegal();
        wrongArgumentsChangeNothing();
        wrongStatesChangeNothing();
        argumentsAreLookedAtFirst();
        fortyAreKept();
        aFullFloorRefusesEveryKind();
        Check.end();
    }

    private static void howIsTakenApart() {
        for (int owner = 0; owner < 8; owner++) {
            for (int side = 0; side < 2; side++) {
                MatchFloor x = new MatchFloor();
                x.submit(1, Check.how(owner, MatchFloor.LIMIT, side), 7, 9);
                Check.due("order(1, 0) of a resting one", x.order(1, 0), 16 * owner + side);
                x.submit(2, Check.how(owner, MatchFloor.STOP, side), 7, 9);
                Check.due("order(2, 0) of a waiting one", x.order(2, 0), 16 * owner + 2 + side);
            }
        }
    }

    private static void anyIntIsAnId() {
        MatchFloor x = new MatchFloor();
        int[] ids = {0, -1, Integer.MIN_VALUE, Integer.MAX_VALUE, 40};
        for (int id : ids) {
            Check.due("submit(" + id + ")", x.submit(id, LIMIT_BUY, 5, 2), 0);
        }
        for (int k = 0; k < ids.length; k++) {
            Check.due("order(" + ids[k] + ", 3)", x.order(ids[k], 3), k);
        }
    }

    private static void edgesAreLegal() {
        MatchFloor x = new MatchFloor();
        Check.due("the lowest", x.submit(1, 0, 1, 1), 0);
        Check.due("the highest", x.submit(2, Check.how(7, MatchFloor.STOP, Check.SELL), 10000, 1000000), 0);
        Check.due("the highest that rests", x.submit(3, Check.how(7, MatchFloor.LIMIT, Check.SELL), 10000, 1000000), 0);
        Check.due("view", Check.view(x, 1, 2, 3), "buy 1/1/1 sell 10000/1000000/1 #1 0 1 1 0 #2 115 10000 1000000 0"
                + " #3 113 10000 1000000 0 fills 0 last 0 turnover 0 figures 3 1 0 0 0");
    }

    private static void wrongArgumentsChangeNothing() {
        MatchFloor x = busy();
        String before = Check.view(x, 1, 2, 3, 9);
        int[] hows = {-1, 128, Integer.MIN_VALUE, Integer.MAX_VALUE, 12, 13, 14, 15, 124, 125, 126, 127, 128 + LIMIT_BUY, -128};
        for (int how : hows) {
            Check.dueThrow("submit(9, " + how + ", 50, 5)", Check.ARGUMENT, () -> x.submit(9, how, 50, 5));
        }
        int[] prices = {0, -1, 10001, Integer.MIN_VALUE, Integer.MAX_VALUE};
        int[] quantities = {0, -1, 1000001, Integer.MIN_VALUE, Integer.MAX_VALUE};
        for (int kind = 0; kind < 6; kind++) {
            int how = Check.how(2, kind, Check.BUY);
            for (int price : prices) {
                Check.dueThrow("kind " + kind + " at price " + price, Check.ARGUMENT, () -> x.submit(9, how, price, 5));
            }
            for (int quantity : quantities) {
                Check.dueThrow("kind " + kind + " of quantity " + quantity, Check.ARGUMENT, () -> x.submit(9, how, 50, quantity));
            }
        }
        Check.due("view after wrong arguments", Check.view(x, 1, 2, 3, 9), before);
    }

    private static void wrongStatesChangeNothing() {
        MatchFloor x = busy();
        String before = Check.view(x, 1, 2, 3, 9);
        for (int kind = 0; kind < 6; kind++) {
            int how = Check.how(2, kind, Check.BUY);
            Check.dueThrow("kind " + kind + " with a resting id", Check.STATE, () -> x.submit(1, how, 60, 1));
            Check.dueThrow("kind " + kind + " with a waiting id", Check.STATE, () -> x.submit(3, how, 60, 1));
        }
        Check.dueThrow("ALL for too much", Check.STATE, () -> x.submit(9, Check.how(2, MatchFloor.ALL, Check.BUY), 60, 5));
        Check.dueThrow("QUIET that fits", Check.STATE, () -> x.submit(9, Check.how(2, MatchFloor.QUIET, Check.BUY), 50, 1));
        Check.due("view after wrong states", Check.view(x, 1, 2, 3, 9), before);
    }

    /** Sells 4 at 50 (id 1), buys 5 at 40 (id 2), a stop buys at 70 (id 3), one fill at 50. */
    private static MatchFloor busy() {
        MatchFloor x = new MatchFloor();
        x.submit(1, LIMIT_SELL, 50, 10);
        x.submit(4, Check.how(1, MatchFloor.MARKET, Check.BUY), 1, 6);
        x.submit(2, Check.how(1, MatchFloor.LIMIT, Check.BUY), 40, 5);
        x.submit(3, Check.how(1, MatchFloor.STOP, Check.BUY), 70, 5);
        return x;
    }

    private static void argumentsAreLookedAtFirst() {
        MatchFloor x = busy();
        Check.dueThrow("a kept id with a wrong how", Check.ARGUMENT, () -> x.submit(1, 128, 50, 5));
        Check.dueThrow("a kept id with a wrong kind", Check.ARGUMENT, () -> x.submit(1, 12, 50, 5));
        Check.dueThrow("a kept id with a wrong price", Check.ARGUMENT, () -> x.submit(1, 0, 0, 5));
        Check.dueThrow("a kept id with a wrong quantity", Check.ARGUMENT, () -> x.submit(1, 0, 50, 0));
        Check.dueThrow("an ALL for 1000001", Check.ARGUMENT, () -> x.submit(9, Check.how(2, MatchFloor.ALL, Check.BUY), 60, 1000001));
        Check.dueThrow("a QUIET that would fit, of 0", Check.ARGUMENT, () -> x.submit(9, Check.how(2, MatchFloor.QUIET, Check.BUY), 60, 0));
        MatchFloor full = full();
        Check.dueThrow("a full floor and a wrong price", Check.ARGUMENT, () -> full.submit(99, 0, 10001, 1));
    }

    private static MatchFloor full() {
        MatchFloor x = new MatchFloor();
        for (int id = 0; id < 39; id++) {
            x.submit(id, LIMIT_SELL, 100 + id, 3);
        }
        x.submit(39, Check.how(0, MatchFloor.STOP, Check.BUY), 9000, 1);
        return x;
    }

    private static void fortyAreKept() {
        MatchFloor x = full();
        Check.due("figure(0)", x.figure(0), 40);
        Check.due("levels(1)", x.levels(1), 39);
        x.cancel(20);
        Check.due("the fortieth again", x.submit(50, LIMIT_SELL, 100, 1), 0);
        Check.due("figure(0)", x.figure(0), 40);
        x.cancel(39);
        Check.due("a market order that fills two", x.submit(51, Check.how(1, MatchFloor.MARKET, Check.BUY), 1, 4), 4);
        Check.due("figure(0)", x.figure(0), 37);
        for (int id = 60; id < 63; id++) {
            Check.due("their places are free", x.submit(id, LIMIT_SELL, 300, 1), 0);
        }
        Check.dueThrow("the forty-first", Check.STATE, () -> x.submit(63, LIMIT_SELL, 300, 1));
    }

    private static void aFullFloorRefusesEveryKind() {
        MatchFloor x = full();
        for (int kind = 0; kind < 6; kind++) {
            int how = Check.how(1, kind, Check.BUY);
            int price = kind == MatchFloor.QUIET ? 1 : 200;
            Check.dueThrow("kind " + kind + " on a full floor", Check.STATE, () -> x.submit(99, how, price, 1));
        }
        Check.due("fills()", x.fills(), 0);
        Check.due("figure(0)", x.figure(0), 40);
        Check.due("level(1, 0, 1)", x.level(1, 0, 1), 3);
    }
}
