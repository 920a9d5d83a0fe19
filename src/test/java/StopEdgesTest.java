/** The edges of the terms about orders that wait: from which last price on they are due, in which order, how many. */
public final class StopEdgesTest {
    private static final int[] PRICES = {1, 2, 3, 5000, 9998, 9999, 10000};

    public static void main(String[] args) {
        noStopIsDueBeforeTheFirstFill();
        aWaitingStopIsDueFromEqualityOn();
        aNewStopIsDueFromEqualityOn();
        anAmendedStopIsDueFromEqualityOn();
        aStopThatMeetsNothingIsGone();
        aStopIsGoneFromAFullFloorToo();
        aStopIsFilledToTheLastOne();
        theEarliestOfTheDueComesFirst();
        aStopThatIsDueNoMoreWaitsOn();
        thirtyNineAreDueInOneCall();
        thirtyNineAreDueByAnAmendedOne();
        refusedAndReadingCallsMakeNoneDue();
        Check.end();
    }

    private static void noStopIsDueBeforeTheFirstFill() {
        for (int side = 0; side < 2; side++) {
            for (int price : PRICES) {
                MatchFloor x = new MatchFloor();
                Check.due("a stop at " + price, Floors.stop(x, 1, 0, side, price, 1), 0);
                Floors.limit(x, 2, 1, 1 - side, price, 1);
                x.amend(1, price, 1);
                Check.dueFigures("it waits", x, 2, 1, 0, 0, 0);
            }
        }
    }

    private static boolean isDue(int side, int price, int last) {
        return side == Check.BUY ? last >= price : last <= price;
    }

    private static void aWaitingStopIsDueFromEqualityOn() {
        for (int side = 0; side < 2; side++) {
            for (int price : PRICES) {
                for (int last : PRICES) {
                    MatchFloor x = new MatchFloor();
                    Floors.stop(x, 1, 0, side, price, 1);
                    Floors.trade(x, last);
                    int due = isDue(side, price, last) ? 1 : 0;
                    Check.dueFigures("a stop at " + price + " of side " + side + " and last " + last, x, 1 - due, 1 - due, due, 0, 1);
                }
            }
        }
    }

    private static void aNewStopIsDueFromEqualityOn() {
        for (int side = 0; side < 2; side++) {
            for (int price : PRICES) {
                for (int last : PRICES) {
                    MatchFloor x = new MatchFloor();
                    Floors.trade(x, last);
                    Check.due("a new stop", Floors.stop(x, 1, 0, side, price, 1), 0);
                    int due = isDue(side, price, last) ? 1 : 0;
                    Check.dueFigures("a new stop at " + price + " of side " + side + ", last " + last, x, 1 - due, 1 - due, due, 0, 1);
                }
            }
        }
    }

    private static void anAmendedStopIsDueFromEqualityOn() {
        for (int side = 0; side < 2; side++) {
            int never = side == Check.BUY ? 10000 : 1;
            for (int price : PRICES) {
                for (int last : PRICES) {
                    if (last == never) {
                        continue;
                    }
                    MatchFloor x = new MatchFloor();
                    Floors.trade(x, last);
                    Floors.stop(x, 1, 0, side, never, 1);
                    Check.due("an amended stop", x.amend(1, price, 1), 0);
                    int due = isDue(side, price, last) ? 1 : 0;
                    Check.dueFigures("a stop amended to " + price + " of side " + side + ", last " + last, x, 1 - due, 1 - due, due, 0, 1);
                }
            }
        }
    }

    private static void aStopThatMeetsNothingIsGone() {
        for (int side = 0; side < 2; side++) {
            MatchFloor x = new MatchFloor();
            Floors.trade(x, 50);
            Check.due("a stop and an empty book", Floors.stop(x, 1, 0, side, 50, 1000000), 0);
            Check.dueGone("what was left of it", x, 1);
            Check.due("fills()", x.fills(), 1);
            Check.due("levels(" + side + ")", x.levels(side), 0);
        }
    }

    private static void aStopIsGoneFromAFullFloorToo() {
        MatchFloor x = new MatchFloor();
        Floors.trade(x, 50);
        for (int id = 0; id < 39; id++) {
            Floors.limit(x, id, 0, Check.BUY, 40, 1);
        }
        Check.due("the fortieth, and due", Floors.stop(x, 100, 1, Check.BUY, 50, 5), 0);
        Check.dueGone("what was left of it", x, 100);
        Check.dueFigures("the others", x, 39, 0, 1, 0, 1);
        Check.due("the fortieth, not due", Floors.stop(x, 100, 1, Check.BUY, 51, 5), 0);
        Check.dueFigures("it waits", x, 40, 1, 1, 0, 1);
        Check.due("it is due now", x.amend(100, 49, 5), 0);
        Check.dueGone("what was left of it", x, 100);
    }

    private static void aStopIsFilledToTheLastOne() {
        for (int more = -1; more <= 1; more++) {
            MatchFloor x = new MatchFloor();
            Floors.trade(x, 50);
            Floors.limit(x, 1, 0, Check.SELL, 60, 5);
            Floors.stop(x, 2, 1, Check.BUY, 50, 5 + more);
            Check.dueFill("the stop", x, 0, 2, 1, 60, Math.min(5, 5 + more));
            Check.dueGone("the stop", x, 2);
            Check.due("what it met", x.figure(0), more < 0 ? 1 : 0);
        }
    }

    /** A better price gives no right of way among stops, nor does a lower id. */
    private static void theEarliestOfTheDueComesFirst() {
        MatchFloor x = new MatchFloor();
        Floors.limit(x, 1, 0, Check.SELL, 100, 4);
        Floors.stop(x, 9, 1, Check.BUY, 100, 1);
        Floors.stop(x, 8, 1, Check.BUY, 1, 1);
        Floors.stop(x, 7, 1, Check.BUY, 99, 1);
        Floors.market(x, 6, 2, Check.BUY, 1);
        for (int k = 0; k < 3; k++) {
            Check.due("fill(" + k + ", 0)", x.fill(k, 0), 7 + k);
        }
        Check.dueFigures("all three", x, 0, 0, 3, 0, 4);
    }

    private static void aStopThatIsDueNoMoreWaitsOn() {
        MatchFloor x = new MatchFloor();
        Floors.limit(x, 1, 0, Check.SELL, 100, 1);
        Floors.limit(x, 2, 0, Check.BUY, 90, 1);
        Floors.stop(x, 3, 1, Check.SELL, 100, 1);
        Floors.stop(x, 4, 1, Check.BUY, 91, 1);
        Floors.market(x, 5, 2, Check.BUY, 1);
        Check.dueFill("the first stop", x, 0, 3, 2, 90, 1);
        Check.dueOrder("one below the second's price", x, 4, 18, 91, 1, 0);
        Check.dueFigures("one was due", x, 1, 1, 1, 0, 2);
    }

    private static void thirtyNineAreDueInOneCall() {
        MatchFloor x = new MatchFloor();
        Floors.trade(x, 50);
        Floors.limit(x, 100, 0, Check.SELL, 60, 39);
        for (int id = 0; id < 38; id++) {
            Floors.stop(x, id, 1, Check.BUY, 60, 1);
        }
        Check.due("the fortieth", Floors.stop(x, 38, 1, Check.BUY, 50, 1), 0);
        Check.dueFigures("all 39", x, 0, 0, 39, 0, 40);
        Check.due("fills()", x.fills(), 40);
        Check.dueFill("the last of them", x, 0, 37, 100, 60, 1);
        Check.dueFill("the first told", x, 31, 6, 100, 60, 1);
    }

    private static void thirtyNineAreDueByAnAmendedOne() {
        MatchFloor x = new MatchFloor();
        Floors.trade(x, 50);
        Floors.limit(x, 100, 0, Check.BUY, 40, 1);
        for (int id = 0; id < 39; id++) {
            Floors.stop(x, id, 1, Check.SELL, 40, 1);
        }
        Check.due("figure(0)", x.figure(0), 40);
        Check.due("one is due at 50", x.amend(20, 50, 1), 0);
        Check.dueFigures("and 38 behind it", x, 0, 0, 39, 0, 2);
        Check.dueFill("the only one that met something", x, 0, 20, 100, 40, 1);
    }

    private static void refusedAndReadingCallsMakeNoneDue() {
        MatchFloor x = new MatchFloor();
        Floors.limit(x, 1, 0, Check.SELL, 50, 5);
        Floors.stop(x, 2, 1, Check.BUY, 50, 1);
        Check.dueThrow("ALL", Check.STATE, () -> Floors.put(x, MatchFloor.ALL, 3, 2, Check.BUY, 50, 6));
        Check.dueThrow("QUIET", Check.STATE, () -> Floors.put(x, MatchFloor.QUIET, 3, 2, Check.BUY, 50, 1));
        Check.due("a lesser quantity", x.amend(1, 50, 4), 0);
        Check.due("a meeting of one owner", Floors.market(x, 3, 0, Check.BUY, 1), 0);
        Check.dueFigures("it waits", x, 1, 1, 0, 1, 0);
    }
}
