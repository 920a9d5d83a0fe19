/** The edges of promise 8: the least and the greatest answers, what is asked beyond its ends, who is not kept. */
public final class OrderEdgesTest {
    private static final int[] NOT_WHATS = {Integer.MIN_VALUE, -1, 4, 5, Integer.MAX_VALUE};

    public static void main(String[] args) {
        leastAndGreatestAnswers();
        firstAndLastOfForty();
        onlyItsOwnLevelCounts();
        restingAndWaitingAreCountedApart();
        whatsBeyondTheirEnds();
        idsComeBeforeWhats();
        Check.end();
    }

    private static void leastAndGreatestAnswers() {
        MatchFloor x = new MatchFloor();
        Floors.limit(x, 1, 0, Check.BUY, 1, 1);
        Check.dueOrder("the least", x, 1, 0, 1, 1, 0);
        Floors.stop(x, 2, 7, Check.SELL, 10000, 1000000);
        Check.dueOrder("the greatest", x, 2, 115, 10000, 1000000, 0);
        Floors.limit(x, 3, 7, Check.SELL, 10000, 1000000);
        Check.dueOrder("the greatest that rests", x, 3, 113, 10000, 1000000, 0);
        Floors.stop(x, 4, 0, Check.BUY, 1, 1);
        Check.dueOrder("the least that waits", x, 4, 2, 1, 1, 1);
    }

    private static void firstAndLastOfForty() {
        for (int kind = 0; kind < 6; kind += 5) {
            for (int side = 0; side < 2; side++) {
                MatchFloor x = new MatchFloor();
                for (int id = 0; id < 40; id++) {
                    Floors.put(x, kind, id, 0, side, 50, 1);
                }
                for (int id = 0; id < 40; id++) {
                    Check.due("kind " + kind + ": order(" + id + ", 3)", x.order(id, 3), id);
                }
            }
        }
    }

    private static void onlyItsOwnLevelCounts() {
        for (int side = 0; side < 2; side++) {
            MatchFloor x = new MatchFloor();
            for (int n = 0; n < 6; n++) {
                Floors.limit(x, n, 0, side, 49 + n % 3, 1);
            }
            for (int n = 0; n < 6; n++) {
                Check.due("order(" + n + ", 3)", x.order(n, 3), n / 3);
            }
        }
    }

    private static void restingAndWaitingAreCountedApart() {
        MatchFloor x = new MatchFloor();
        for (int n = 0; n < 4; n++) {
            Floors.limit(x, n, 0, Check.SELL, 50, 1);
            Floors.stop(x, 10 + n, 0, n % 2, 50 + n, 1);
        }
        for (int n = 0; n < 4; n++) {
            Check.due("a resting one", x.order(n, 3), n);
            Check.due("a waiting one of either side and any price", x.order(10 + n, 3), n);
        }
    }

    private static void whatsBeyondTheirEnds() {
        MatchFloor x = Floors.busy();
        for (int id = 1; id <= 7; id++) {
            int kept = id;
            for (int what : NOT_WHATS) {
                Check.dueThrow("order(" + id + ", " + what + ")", Check.ARGUMENT, () -> x.order(kept, what));
            }
        }
        Check.dueOrder("a resting one", x, 2, 17, 50, 5, 1);
        Check.dueOrder("a waiting one", x, 7, 99, 20, 10, 1);
    }

    private static void idsComeBeforeWhats() {
        MatchFloor[] floors = {new MatchFloor(), Floors.busy()};
        int[] ids = {0, 8, 9, -1, Integer.MIN_VALUE, Integer.MAX_VALUE};
        for (MatchFloor x : floors) {
            for (int id : ids) {
                for (int what : NOT_WHATS) {
                    Check.dueThrow("order(" + id + ", " + what + ")", Check.ELEMENT, () -> x.order(id, what));
                }
                Check.dueGone("no kept one", x, id);
            }
        }
    }
}
