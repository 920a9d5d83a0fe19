/** The edges of promises 3 and 5: the least and the greatest that was left, nothing kept, one, 40, and owners beyond their ends. */
public final class CancelEdgesTest {
    public static void main(String[] args) {
        whatWasLeftIsAnswered();
        noneHasThisId();
        fortyAreCancelled();
        whoStoodBehindMovesUp();
        cancelCountsNowhereElse();
        ownersAtTheirEnds();
        ownersBeyondTheirEnds();
        fortyAreWithdrawn();
        nothingIsWithdrawn();
        Check.end();
    }

    private static void whatWasLeftIsAnswered() {
        int[] quantities = {1, 2, 1000000};
        for (int quantity : quantities) {
            for (int side = 0; side < 2; side++) {
                MatchFloor x = new MatchFloor();
                Floors.limit(x, 1, 0, side, 50, quantity);
                Floors.stop(x, 2, 0, side, 50, quantity);
                Check.due("a resting one", x.cancel(1), quantity);
                Check.due("a waiting one", x.cancel(2), quantity);
                Check.due("figure(0)", x.figure(0), 0);
            }
        }
        MatchFloor x = new MatchFloor();
        Floors.limit(x, 1, 0, Check.SELL, 50, 1000000);
        Floors.market(x, 2, 1, Check.BUY, 999999);
        Check.due("a filled one but for the last", x.cancel(1), 1);
        Floors.limit(x, 1, 0, Check.SELL, 50, 1);
        x.amend(1, 51, 7);
        Check.due("an amended one", x.cancel(1), 7);
    }

    private static void noneHasThisId() {
        MatchFloor x = Floors.busy();
        int[] ids = {0, 8, 9, -1, -7, Integer.MIN_VALUE, Integer.MAX_VALUE};
        for (int id : ids) {
            Check.dueGone("never kept, or no longer", x, id);
        }
        for (int id = 1; id <= 7; id++) {
            x.cancel(id);
            Check.dueGone("cancelled", x, id);
        }
        Check.dueFigures("all are gone", x, 0, 0, 0, 1, 6);
    }

    private static void fortyAreCancelled() {
        MatchFloor x = Floors.full();
        for (int n = 0; n < 40; n++) {
            int id = n * 7 % 40;
            Check.due("figure(0)", x.figure(0), 40 - n);
            Check.due("cancel(" + id + ")", x.cancel(id), 1 + id);
        }
        Check.dueFigures("all are gone", x, 0, 0, 0, 0, 33);
        Check.due("levels(0)", x.levels(0), 0);
        Check.due("levels(1)", x.levels(1), 0);
    }

    private static void whoStoodBehindMovesUp() {
        MatchFloor x = new MatchFloor();
        for (int id = 0; id < 3; id++) {
            Floors.limit(x, id, 0, Check.SELL, 50, 1);
            Floors.stop(x, 10 + id, 0, Check.SELL, 50, 1);
        }
        x.cancel(1);
        x.cancel(11);
        Check.due("the first", x.order(0, 3), 0);
        Check.due("the third", x.order(2, 3), 1);
        Check.due("the first that waits", x.order(10, 3), 0);
        Check.due("the third that waits", x.order(12, 3), 1);
        x.cancel(0);
        x.cancel(10);
        Check.due("the third alone", x.order(2, 3), 0);
        Check.due("the third that waits alone", x.order(12, 3), 0);
    }

    private static void cancelCountsNowhereElse() {
        MatchFloor x = Floors.busy();
        x.cancel(1);
        x.cancel(6);
        x.withdraw(1);
        Check.dueFigures("three fewer", x, 4, 1, 0, 1, 6);
        Check.due("fills()", x.fills(), 1);
        Check.due("last()", x.last(), 50);
        Check.due("turnover()", x.turnover(), 300);
    }

    private static void ownersAtTheirEnds() {
        for (int owner = 0; owner < 8; owner++) {
            MatchFloor x = new MatchFloor();
            for (int other = 0; other < 8; other++) {
                Floors.limit(x, other, other, Check.SELL, 50, 1);
                Floors.stop(x, 10 + other, other, Check.BUY, 50, 1);
            }
            Check.due("withdraw(" + owner + ")", x.withdraw(owner), 2);
            Check.dueGone("it rested", x, owner);
            Check.dueGone("it waited", x, 10 + owner);
            Check.dueFigures("the others'", x, 14, 7, 0, 0, 0);
            Check.due("once more", x.withdraw(owner), 0);
        }
    }

    private static void ownersBeyondTheirEnds() {
        int[] owners = {Integer.MIN_VALUE, -8, -1, 8, 9, 15, 16, 256, Integer.MAX_VALUE};
        MatchFloor x = Floors.busy();
        MatchFloor empty = new MatchFloor();
        for (int owner : owners) {
            Check.dueThrow("withdraw(" + owner + ")", Check.ARGUMENT, () -> x.withdraw(owner));
            Check.dueThrow("withdraw(" + owner + ") with nothing kept", Check.ARGUMENT, () -> empty.withdraw(owner));
        }
        Check.due("view", Check.view(x, 1, 2, 3, 4, 5, 6, 7), Check.view(Floors.busy(), 1, 2, 3, 4, 5, 6, 7));
    }

    private static void fortyAreWithdrawn() {
        MatchFloor x = new MatchFloor();
        for (int id = 0; id < 40; id++) {
            int kind = id % 3 == 0 ? MatchFloor.STOP : MatchFloor.LIMIT;
            Floors.put(x, kind, id, 5, id % 2, id % 2 == Check.BUY ? 40 : 60, 1);
        }
        Check.due("one that has none", x.withdraw(4), 0);
        Check.due("figure(0)", x.figure(0), 40);
        Check.due("all 40", x.withdraw(5), 40);
        Check.dueFigures("nothing is kept", x, 0, 0, 0, 0, 0);
        for (int id = 0; id < 40; id++) {
            Check.due("the places are free", Floors.limit(x, id, 5, Check.BUY, 40, 1), 0);
        }
        Check.dueThrow("all 40 of them", Check.STATE, () -> Floors.limit(x, 40, 5, Check.BUY, 40, 1));
    }

    /** Behind all that can take an order away, there is nothing left to withdraw. */
    private static void nothingIsWithdrawn() {
        MatchFloor x = new MatchFloor();
        Floors.limit(x, 1, 3, Check.SELL, 50, 1);
        Floors.market(x, 2, 3, Check.BUY, 1);
        Check.due("it met its owner's", x.withdraw(3), 0);
        Floors.limit(x, 1, 3, Check.SELL, 50, 1);
        Floors.market(x, 2, 4, Check.BUY, 1);
        Check.due("it was filled", x.withdraw(3), 0);
        Floors.stop(x, 1, 3, Check.BUY, 50, 1);
        Check.due("it was due", x.withdraw(3), 0);
        Floors.limit(x, 1, 3, Check.SELL, 50, 1);
        x.cancel(1);
        Check.due("it was cancelled", x.withdraw(3), 0);
    }
}
