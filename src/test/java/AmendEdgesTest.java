/** The edges of promise 4: what keeps its time and what does not, arguments at and beyond their ends, who is not kept. */
public final class AmendEdgesTest {
    private static final int[] NOT_PRICES = {Integer.MIN_VALUE, -1, 0, 10001, Integer.MAX_VALUE};
    private static final int[] NOT_QUANTITIES = {Integer.MIN_VALUE, -1, 0, 1000001, Integer.MAX_VALUE};

    public static void main(String[] args) {
        theTimeIsKeptOrLost();
        itIsTheLeftQuantityThatCounts();
        aWaitingOneAlwaysLosesItsTime();
        argumentsAtTheirEnds();
        argumentsBeyondTheirEnds();
        noKeptOrderHasThisId();
        argumentsComeBeforeIds();
        thePriceFitsFromEqualityOn();
        theAnswerIsFromNothingToAll();
        theAnswerComesBeforeTheStops();
        aFullFloorIsNoHindrance();
        anAmendedOneMeetsItsOwner();
        aKeptTimeMeansNoMatchingAndNoStops();
        Check.end();
    }

    /** The order in the middle of three is amended; before it stands one if it kept its time, two if not. */
    private static void theTimeIsKeptOrLost() {
        int[][] rows = {{50, 1, 1}, {50, 9, 1}, {50, 10, 1}, {50, 11, 2}, {50, 1000000, 2}};
        for (int side = 0; side < 2; side++) {
            for (int[] row : rows) {
                MatchFloor x = three(side);
                Check.due("amend(2, " + row[0] + ", " + row[1] + ")", x.amend(2, row[0], row[1]), 0);
                Check.dueOrder("quantity " + row[1], x, 2, 16 + side, row[0], row[1], row[2]);
                Check.due("the third", x.order(3, 3), 3 - row[2]);
            }
            for (int price = 49; price <= 51; price += 2) {
                MatchFloor x = three(side);
                Check.due("amend(2, " + price + ", 10)", x.amend(2, price, 10), 0);
                Check.dueOrder("a level of its own", x, 2, 16 + side, price, 10, 0);
                x.amend(2, 50, 10);
                Check.dueOrder("back again", x, 2, 16 + side, 50, 10, 2);
            }
        }
    }

    private static MatchFloor three(int side) {
        MatchFloor x = new MatchFloor();
        for (int id = 1; id <= 3; id++) {
            Floors.limit(x, id, id - 1, side, 50, 10);
        }
        return x;
    }

    private static void itIsTheLeftQuantityThatCounts() {
        for (int quantity = 6; quantity <= 8; quantity++) {
            MatchFloor x = three(Check.SELL);
            Floors.market(x, 9, 7, Check.BUY, 3);
            Check.due("amend(1, 50, " + quantity + ")", x.amend(1, 50, quantity), 0);
            Check.dueOrder("7 of 10 were left", x, 1, 1, 50, quantity, quantity <= 7 ? 0 : 2);
        }
    }

    private static void aWaitingOneAlwaysLosesItsTime() {
        int[][] rows = {{60, 10}, {60, 9}, {60, 1}, {60, 11}, {59, 10}, {61, 10}, {1, 1}, {10000, 1000000}};
        for (int[] row : rows) {
            MatchFloor x = new MatchFloor();
            Floors.stop(x, 1, 0, Check.BUY, 60, 10);
            Floors.stop(x, 2, 0, Check.SELL, 60, 10);
            Floors.limit(x, 3, 0, Check.SELL, 60, 10);
            Check.due("amend(1, " + row[0] + ", " + row[1] + ")", x.amend(1, row[0], row[1]), 0);
            Check.dueOrder("it waits behind", x, 1, 2, row[0], row[1], 1);
            Check.due("the other", x.order(2, 3), 0);
            Check.dueFigures("both wait", x, 3, 2, 0, 0, 0);
        }
        MatchFloor alone = new MatchFloor();
        Floors.stop(alone, 1, 0, Check.BUY, 60, 10);
        alone.amend(1, 61, 10);
        Check.dueOrder("behind nobody", alone, 1, 2, 61, 10, 0);
    }

    private static void argumentsAtTheirEnds() {
        int[] prices = {1, 2, 9999, 10000};
        int[] quantities = {1, 2, 999999, 1000000};
        for (int price : prices) {
            for (int quantity : quantities) {
                for (int side = 0; side < 2; side++) {
                    MatchFloor x = new MatchFloor();
                    Floors.limit(x, 1, 7, side, 50, 5);
                    Floors.stop(x, 2, 7, side, 50, 5);
                    Check.due("a resting one", x.amend(1, price, quantity), 0);
                    Check.due("a waiting one", x.amend(2, price, quantity), 0);
                    Check.dueOrder("a resting one", x, 1, 16 * 7 + side, price, quantity, 0);
                    Check.dueOrder("a waiting one", x, 2, 16 * 7 + 2 + side, price, quantity, 0);
                }
            }
        }
    }

    private static void argumentsBeyondTheirEnds() {
        MatchFloor x = Floors.busy();
        for (int id = 1; id <= 7; id++) {
            int kept = id;
            for (int price : NOT_PRICES) {
                Check.dueThrow("amend(" + id + ", " + price + ", 1)", Check.ARGUMENT, () -> x.amend(kept, price, 1));
            }
            for (int quantity : NOT_QUANTITIES) {
                int same = x.order(id, 1);
                Check.dueThrow("amend(" + id + ", " + same + ", " + quantity + ")", Check.ARGUMENT, () -> x.amend(kept, same, quantity));
            }
        }
        Check.due("view", Check.view(x, 1, 2, 3, 4, 5, 6, 7), Check.view(Floors.busy(), 1, 2, 3, 4, 5, 6, 7));
    }

    private static void noKeptOrderHasThisId() {
        int[] ids = {0, 8, 9, -1, Integer.MIN_VALUE, Integer.MAX_VALUE};
        int[][] rows = {{1, 1}, {10000, 1000000}, {50, 4}};
        MatchFloor x = Floors.busy();
        MatchFloor empty = new MatchFloor();
        for (int id : ids) {
            for (int[] row : rows) {
                Check.dueThrow("amend(" + id + ")", Check.ELEMENT, () -> x.amend(id, row[0], row[1]));
                Check.dueThrow("amend(" + id + ") with nothing kept", Check.ELEMENT, () -> empty.amend(id, row[0], row[1]));
            }
        }
        Check.due("view", Check.view(x, 1, 2, 3, 4, 5, 6, 7), Check.view(Floors.busy(), 1, 2, 3, 4, 5, 6, 7));
    }

    private static void argumentsComeBeforeIds() {
        MatchFloor x = new MatchFloor();
        for (int price : NOT_PRICES) {
            Check.dueThrow("no id and price " + price, Check.ARGUMENT, () -> x.amend(1, price, 1));
        }
        for (int quantity : NOT_QUANTITIES) {
            Check.dueThrow("no id and quantity " + quantity, Check.ARGUMENT, () -> x.amend(1, 1, quantity));
        }
        Check.dueThrow("no id alone", Check.ELEMENT, () -> x.amend(1, 1, 1));
    }

    private static void thePriceFitsFromEqualityOn() {
        for (int price = 49; price <= 51; price++) {
            for (int side = 0; side < 2; side++) {
                MatchFloor x = new MatchFloor();
                Floors.limit(x, 1, 0, 1 - side, 50, 5);
                Floors.limit(x, 2, 1, side, side == Check.BUY ? 1 : 10000, 5);
                boolean fits = side == Check.BUY ? price >= 50 : price <= 50;
                Check.due("amended to " + price, x.amend(2, price, 5), fits ? 5 : 0);
                Check.dueFigures("amended to " + price, x, fits ? 0 : 2, 0, 0, 0, fits ? 5 : 0);
            }
        }
    }

    private static void theAnswerIsFromNothingToAll() {
        for (int quantity = 4; quantity <= 6; quantity++) {
            MatchFloor x = new MatchFloor();
            Floors.limit(x, 1, 0, Check.SELL, 50, 5);
            Floors.put(x, MatchFloor.QUIET, 2, 1, Check.BUY, 49, 1);
            Check.due("of " + quantity, x.amend(2, 50, quantity), Math.min(5, quantity));
            Check.dueFill("the fill", x, 0, 2, 1, 50, Math.min(5, quantity));
            if (quantity == 6) {
                Check.dueOrder("one rests", x, 2, 16, 50, 1, 0);
            } else {
                Check.dueGone("nothing is left", x, 2);
            }
        }
    }

    private static void theAnswerComesBeforeTheStops() {
        MatchFloor x = new MatchFloor();
        Floors.limit(x, 1, 0, Check.SELL, 50, 1);
        Floors.stop(x, 2, 2, Check.SELL, 50, 1);
        Floors.limit(x, 3, 1, Check.BUY, 49, 2);
        Check.due("one by matching, one by the stop", x.amend(3, 50, 2), 1);
        Check.dueFigures("all is filled", x, 0, 0, 1, 0, 2);
        Floors.limit(x, 4, 0, Check.SELL, 60, 5);
        Floors.stop(x, 5, 1, Check.BUY, 51, 5);
        Check.due("a stop's own fill", x.amend(5, 50, 5), 0);
        Check.dueFill("a stop's own fill", x, 0, 5, 4, 60, 5);
    }

    private static void aFullFloorIsNoHindrance() {
        MatchFloor x = Floors.full();
        Check.due("a lesser quantity", x.amend(19, 54, 1), 0);
        Check.due("a greater one", x.amend(18, 54, 100), 0);
        Check.due("another price", x.amend(20, 41, 21), 0);
        Check.due("one that waits", x.amend(30, 61, 31), 0);
        Check.due("figure(0)", x.figure(0), 40);
        Check.dueOrder("behind its level", x, 18, 1, 54, 100, 4);
        Check.dueOrder("behind all that wait", x, 30, 34, 61, 31, 9);
        Check.due("one that fits", x.amend(29, 51, 3), 3);
        Check.due("it and the two that it filled are gone", x.figure(0), 37);
    }

    private static void anAmendedOneMeetsItsOwner() {
        MatchFloor x = new MatchFloor();
        Floors.limit(x, 1, 0, Check.SELL, 50, 5);
        Floors.limit(x, 2, 0, Check.BUY, 49, 5);
        Check.due("its owner's", x.amend(2, 50, 5), 0);
        Check.dueFigures("its owner's is gone", x, 1, 0, 0, 1, 0);
        Check.dueOrder("it rests", x, 2, 0, 50, 5, 0);
    }

    private static void aKeptTimeMeansNoMatchingAndNoStops() {
        MatchFloor x = Floors.busy();
        for (int id = 1; id <= 5; id++) {
            Check.due("amend to 1", x.amend(id, x.order(id, 1), 1), 0);
        }
        Check.dueFigures("as before", x, 7, 2, 0, 1, 6);
        Check.due("fills()", x.fills(), 1);
        Check.due("the first level", x.level(1, 0, 1), 2);
    }
}
