/** The edges of promise 13: each figure at nothing, at one and at its greatest, and figures that there are not. */
public final class FigureEdgesTest {
    private static final int[] NOT_FIGURES = {Integer.MIN_VALUE, -1, 5, 6, Integer.MAX_VALUE};

    public static void main(String[] args) {
        figuresBeyondTheirEnds();
        keptFromNothingToForty();
        waitingFromNothingToForty();
        dueFromNothingToMany();
        metFromNothingToMany();
        filledFromNothingToMuch();
        Check.end();
    }

    private static void figuresBeyondTheirEnds() {
        MatchFloor[] floors = {new MatchFloor(), Floors.busy(), Floors.full()};
        for (MatchFloor x : floors) {
            for (int k : NOT_FIGURES) {
                Check.dueThrow("figure(" + k + ")", Check.ARGUMENT, () -> x.figure(k));
            }
        }
        Check.dueFigures("a new one", floors[0], 0, 0, 0, 0, 0);
        Check.dueFigures("a busy one", floors[1], 7, 2, 0, 1, 6);
        Check.dueFigures("a full one", floors[2], 40, 10, 0, 0, 33);
    }

    private static void keptFromNothingToForty() {
        MatchFloor x = new MatchFloor();
        for (int n = 0; n < 40; n++) {
            Check.due("figure(0)", x.figure(0), n);
            Floors.limit(x, n, n % 8, n % 2, n % 2 == Check.BUY ? 40 : 60, 1);
        }
        Check.due("figure(0)", x.figure(0), 40);
        Check.due("figure(1)", x.figure(1), 0);
        Floors.limit(new MatchFloor(), 1, 0, Check.BUY, 1, 1);
        Check.due("figure(0), whatever another object keeps", x.figure(0), 40);
    }

    private static void waitingFromNothingToForty() {
        MatchFloor x = new MatchFloor();
        for (int n = 0; n < 40; n++) {
            Check.due("figure(1)", x.figure(1), n);
            Floors.stop(x, n, n % 8, n % 2, 50, 1);
        }
        Check.due("figure(0)", x.figure(0), 40);
        Check.due("figure(1)", x.figure(1), 40);
        x.withdraw(0);
        Check.due("figure(1)", x.figure(1), 35);
        x.cancel(1);
        Check.due("figure(1)", x.figure(1), 34);
        x.amend(2, 51, 1);
        Check.due("figure(1)", x.figure(1), 34);
    }

    /** A stop counts once, when it is due, whether it meets something or not. */
    private static void dueFromNothingToMany() {
        MatchFloor x = new MatchFloor();
        Floors.stop(x, 1, 0, Check.BUY, 50, 1);
        x.amend(1, 51, 1);
        Check.due("figure(2)", x.figure(2), 0);
        Floors.trade(x, 50);
        Check.due("figure(2)", x.figure(2), 0);
        Floors.trade(x, 51);
        Check.due("figure(2)", x.figure(2), 1);
        for (int n = 0; n < 100; n++) {
            Floors.stop(x, 2, 0, n % 2, 51, 1);
            Check.due("figure(2)", x.figure(2), 2 + n);
        }
        Floors.stop(x, 3, 0, Check.SELL, 50, 1);
        x.cancel(3);
        Check.due("a cancelled one was not due", x.figure(2), 101);
    }

    private static void metFromNothingToMany() {
        MatchFloor x = new MatchFloor();
        for (int n = 0; n < 100; n++) {
            Check.due("figure(3)", x.figure(3), n);
            Floors.limit(x, 1, 0, n % 2, 50, 1);
            Floors.market(x, 2, 0, 1 - n % 2, 1);
        }
        Check.due("figure(3)", x.figure(3), 100);
        Floors.limit(x, 1, 0, Check.BUY, 50, 1);
        x.cancel(1);
        Floors.limit(x, 1, 0, Check.BUY, 50, 1);
        x.withdraw(0);
        Check.dueFigures("only those that met", x, 0, 0, 0, 100, 0);
    }

    /** 512 calls bring in no more than 512000000, half of it on either side: an int has no need to wrap by then. */
    private static void filledFromNothingToMuch() {
        MatchFloor x = new MatchFloor();
        Floors.limit(x, 1, 0, Check.SELL, 50, 1000000);
        Check.due("figure(4)", x.figure(4), 0);
        Floors.limit(x, 2, 1, Check.BUY, 50, 1);
        Check.due("figure(4)", x.figure(4), 1);
        Floors.limit(x, 2, 1, Check.BUY, 50, 1000000);
        Check.due("figure(4)", x.figure(4), 1000000);
        x.cancel(2);
        for (int n = 0; n < 252; n++) {
            Floors.limit(x, 1, 0, Check.SELL, 10000, 1000000);
            Floors.limit(x, 2, 1, Check.BUY, 10000, 1000000);
        }
        Check.due("figure(4)", x.figure(4), 253000000);
    }
}
