/** Promises 6 and 7: how many levels a side has, and what stands on each. */
public final class LevelTest {
    public static void main(String[] args) {
        levelsGoFromTheBestPrice();
        wrongCalls();
        levelsComeAndGo();
        manyLevels();
        Check.end();
    }

    private static MatchFloor floor() {
        MatchFloor x = new MatchFloor();
        int buy = Check.how(0, MatchFloor.LIMIT, Check.BUY);
        int sell = Check.how(1, MatchFloor.LIMIT, Check.SELL);
        x.submit(1, buy, 50, 1);
        x.submit(2, buy, 70, 2);
        x.submit(3, buy, 60, 3);
        x.submit(4, buy, 70, 4);
        x.submit(5, sell, 90, 5);
        x.submit(6, sell, 80, 6);
        x.submit(7, sell, 90, 7);
        x.submit(8, sell, 90, 1000000);
        x.submit(9, Check.how(1, MatchFloor.STOP, Check.SELL), 80, 9);
        x.submit(10, Check.how(1, MatchFloor.STOP, Check.BUY), 75, 9);
        return x;
    }

    private static void levelsGoFromTheBestPrice() {
        MatchFloor x = floor();
        Check.due("levels(0)", x.levels(0), 3);
        Check.due("levels(1)", x.levels(1), 2);
        int[][] want = {{70, 6, 2}, {60, 3, 1}, {50, 1, 1}, {80, 6, 1}, {90, 1000012, 3}};
        for (int n = 0; n < want.length; n++) {
            for (int what = 0; what < 3; what++) {
                int side = n < 3 ? 0 : 1;
                int k = n < 3 ? n : n - 3;
                Check.due("level(" + side + ", " + k + ", " + what + ")", x.level(side, k, what), want[n][what]);
            }
        }
    }

    private static void wrongCalls() {
        MatchFloor x = floor();
        int[] wrong = {-1, Integer.MIN_VALUE, Integer.MAX_VALUE};
        for (int n : wrong) {
            Check.dueThrow("levels(" + n + ")", Check.ARGUMENT, () -> x.levels(n));
            Check.dueThrow("level(" + n + ", 0, 0)", Check.ARGUMENT, () -> x.level(n, 0, 0));
            Check.dueThrow("level(0, 0, " + n + ")", Check.ARGUMENT, () -> x.level(0, 0, n));
            Check.dueThrow("level(0, " + n + ", 0)", Check.INDEX, () -> x.level(0, n, 0));
            Check.dueThrow("level(1, " + n + ", 2)", Check.INDEX, () -> x.level(1, n, 2));
            Check.dueThrow("level(" + n + ", " + n + ", 0)", Check.ARGUMENT, () -> x.level(n, n, 0));
            Check.dueThrow("level(0, " + n + ", " + n + ")", Check.ARGUMENT, () -> x.level(0, n, n));
        }
        Check.dueThrow("levels(2)", Check.ARGUMENT, () -> x.levels(2));
        Check.dueThrow("level(2, 0, 0)", Check.ARGUMENT, () -> x.level(2, 0, 0));
        Check.dueThrow("level(0, 0, 3)", Check.ARGUMENT, () -> x.level(0, 0, 3));
        Check.dueThrow("level(0, 3, 0)", Check.INDEX, () -> x.level(0, 3, 0));
        Check.dueThrow("level(1, 2, 0)", Check.INDEX, () -> x.level(1, 2, 0));
        Check.dueThrow("level(2, 9, 0)", Check.ARGUMENT, () -> x.level(2, 9, 0));
        Check.dueThrow("level(0, 9, 3)", Check.ARGUMENT, () -> x.level(0, 9, 3));
    }

    private static void levelsComeAndGo() {
        MatchFloor x = floor();
        x.cancel(2);
        Check.due("a level with one order less", x.level(0, 0, 1), 4);
        x.cancel(4);
        Check.due("a level that is gone", x.levels(0), 2);
        Check.due("the next is the best", x.level(0, 0, 0), 60);
        x.amend(3, 55, 3);
        Check.due("a level that moved", x.level(0, 0, 0), 55);
        x.submit(11, Check.how(0, MatchFloor.MARKET, Check.BUY), 1, 6);
        Check.due("a level that was filled", x.levels(1), 1);
        // The fill at 80 makes both stops due; the earlier one sells down to 50, and the other is due no more.
        Check.due("levels(0) after the stop", x.levels(0), 0);
        Check.due("who still waits", x.order(10, 0), 18);
    }

    private static void manyLevels() {
        for (int side = 0; side < 2; side++) {
            MatchFloor x = new MatchFloor();
            int best = side == Check.BUY ? 10000 : 1;
            int step = side == Check.BUY ? -1 : 1;
            for (int n = 0; n < 40; n++) {
                int rank = n * 7 % 40;
                x.submit(n, Check.how(2, MatchFloor.LIMIT, side), best + step * rank, 1 + rank);
            }
            Check.due("levels(" + side + ")", x.levels(side), 40);
            Check.due("levels of the other", x.levels(1 - side), 0);
            for (int k = 0; k < 40; k++) {
                Check.due("price of level " + k, x.level(side, k, 0), best + step * k);
                Check.due("left on level " + k, x.level(side, k, 1), 1 + k);
            }
            int last = side;
            Check.dueThrow("level 40", Check.INDEX, () -> x.level(last, 40, 0));
        }
    }
}
