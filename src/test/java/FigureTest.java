/** Promise 13: the figures. */
public final class FigureTest {
    public static void main(String[] args) {
        MatchFloor x = new MatchFloor();
        x.submit(1, Check.how(0, MatchFloor.LIMIT, Check.SELL), 50, 10);
        x.submit(2, Check.how(1, MatchFloor.LIMIT, Check.SELL), 51, 10);
        x.submit(3, Check.how(2, MatchFloor.STOP, Check.BUY), 50, 4);
        x.submit(4, Check.how(2, MatchFloor.STOP, Check.BUY), 60, 4);
        x.submit(5, Check.how(2, MatchFloor.STOP, Check.SELL), 40, 4);
        figures("kept and waiting", x, 5, 3, 0, 0, 0);
        x.submit(6, Check.how(3, MatchFloor.MARKET, Check.BUY), 1, 3);
        figures("a stop was due", x, 4, 2, 1, 0, 7);
        x.submit(7, Check.how(0, MatchFloor.AT_ONCE, Check.BUY), 51, 2);
        figures("one met its owner", x, 3, 2, 1, 1, 9);
        x.withdraw(2);
        figures("a withdrawal is no meeting", x, 1, 0, 1, 1, 9);
        x.cancel(2);
        figures("nor is a cancel", x, 0, 0, 1, 1, 9);
        int[] wrong = {-1, 5, Integer.MIN_VALUE, Integer.MAX_VALUE};
        for (int k : wrong) {
            Check.dueThrow("figure(" + k + ")", Check.ARGUMENT, () -> x.figure(k));
        }
        muchIsFilled();
        Check.end();
    }

    private static void figures(String when, MatchFloor x, int... want) {
        for (int k = 0; k < want.length; k++) {
            Check.due(when + ": figure(" + k + ")", x.figure(k), want[k]);
        }
    }

    /** As much as can be filled in 511 calls: half of what comes in, so that no int can wrap by then. */
    private static void muchIsFilled() {
        MatchFloor x = new MatchFloor();
        for (int n = 0; n < 255; n++) {
            x.submit(1, Check.how(0, MatchFloor.LIMIT, Check.SELL), 1, 1000000);
            x.submit(2, Check.how(1, MatchFloor.LIMIT, Check.BUY), 1, 1000000);
        }
        Check.due("figure(4)", x.figure(4), 255000000);
    }
}
