/** Promise 8: what is told of a kept order. */
public final class OrderTest {
    public static void main(String[] args) {
        MatchFloor x = new MatchFloor();
        x.submit(1, Check.how(7, MatchFloor.LIMIT, Check.SELL), 100, 10);
        x.submit(2, Check.how(3, MatchFloor.STOP, Check.BUY), 200, 11);
        x.submit(3, Check.how(0, MatchFloor.LIMIT, Check.SELL), 100, 12);
        x.submit(4, Check.how(0, MatchFloor.LIMIT, Check.SELL), 101, 13);
        x.submit(5, Check.how(0, MatchFloor.STOP, Check.SELL), 1, 14);
        x.submit(6, Check.how(6, MatchFloor.LIMIT, Check.SELL), 100, 15);
        x.submit(7, Check.how(5, MatchFloor.QUIET, Check.BUY), 99, 16);
        x.submit(8, Check.how(1, MatchFloor.AT_ONCE, Check.BUY), 100, 4);
        x.submit(9, Check.how(7, MatchFloor.STOP, Check.BUY), 200, 17);
        int[][] want = {{1, 113, 100, 6, 0}, {2, 50, 200, 11, 0}, {3, 1, 100, 12, 1}, {4, 1, 101, 13, 0},
            {5, 3, 1, 14, 1}, {6, 97, 100, 15, 2}, {7, 80, 99, 16, 0}, {9, 114, 200, 17, 2}};
        for (int[] row : want) {
            for (int what = 0; what < 4; what++) {
                Check.due("order(" + row[0] + ", " + what + ")", x.order(row[0], what), row[what + 1]);
            }
        }
        wrongCalls(x);
        Check.end();
    }

    private static void wrongCalls(MatchFloor x) {
        int[] whats = {-1, 4, Integer.MIN_VALUE, Integer.MAX_VALUE};
        for (int what : whats) {
            Check.dueThrow("order(1, " + what + ")", Check.ARGUMENT, () -> x.order(1, what));
            Check.dueThrow("order(2, " + what + ")", Check.ARGUMENT, () -> x.order(2, what));
            Check.dueThrow("order(8, " + what + ")", Check.ELEMENT, () -> x.order(8, what));
        }
        for (int what = 0; what < 4; what++) {
            int asked = what;
            Check.dueThrow("order(8, " + what + ")", Check.ELEMENT, () -> x.order(8, asked));
            Check.dueThrow("order(0, " + what + ")", Check.ELEMENT, () -> x.order(0, asked));
        }
    }
}
