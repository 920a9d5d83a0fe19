/** The edges of promises 6 and 7: no level, one, 40; the numbers of levels and what is asked, at and beyond their ends. */
public final class LevelEdgesTest {
    private static final int[] NOT_SIDES = {Integer.MIN_VALUE, -2, -1, 2, 3, 16, Integer.MAX_VALUE};
    private static final int[] NOT_WHATS = {Integer.MIN_VALUE, -1, 3, 4, Integer.MAX_VALUE};

    public static void main(String[] args) {
        sidesBeyondTheirEnds();
        whatsBeyondTheirEnds();
        levelsBeyondTheirEnds();
        argumentsComeBeforeLevels();
        aLevelHasOneOrMore();
        fortyOnOneLevel();
        fortyLevels();
        pricesAtTheirEnds();
        stopsHaveNoLevel();
        aSideOnlyHasItsOwn();
        Check.end();
    }

    private static void sidesBeyondTheirEnds() {
        MatchFloor x = Floors.busy();
        MatchFloor empty = new MatchFloor();
        for (int side : NOT_SIDES) {
            Check.dueThrow("levels(" + side + ")", Check.ARGUMENT, () -> x.levels(side));
            Check.dueThrow("levels(" + side + ") of nothing", Check.ARGUMENT, () -> empty.levels(side));
            for (int what = 0; what < 3; what++) {
                int asked = what;
                Check.dueThrow("level(" + side + ", 0, " + what + ")", Check.ARGUMENT, () -> x.level(side, 0, asked));
            }
        }
        Check.due("levels(0)", x.levels(0), 2);
        Check.due("levels(1)", x.levels(1), 2);
    }

    private static void whatsBeyondTheirEnds() {
        MatchFloor x = Floors.busy();
        for (int what : NOT_WHATS) {
            for (int side = 0; side < 2; side++) {
                int asked = side;
                Check.dueThrow("level(" + side + ", 0, " + what + ")", Check.ARGUMENT, () -> x.level(asked, 0, what));
                Check.dueThrow("level(" + side + ", 1, " + what + ")", Check.ARGUMENT, () -> x.level(asked, 1, what));
            }
        }
        int[][] want = {{40, 7, 1}, {30, 8, 1}, {50, 9, 2}, {60, 6, 1}};
        for (int n = 0; n < 4; n++) {
            for (int what = 0; what < 3; what++) {
                Check.due("level(" + n / 2 + ", " + n % 2 + ", " + what + ")", x.level(n / 2, n % 2, what), want[n][what]);
            }
        }
    }

    private static void levelsBeyondTheirEnds() {
        MatchFloor x = Floors.busy();
        int[] ks = {Integer.MIN_VALUE, -1, 2, 3, 39, 40, 41, Integer.MAX_VALUE};
        for (int k : ks) {
            for (int what = 0; what < 3; what++) {
                int asked = what;
                Check.dueThrow("level(0, " + k + ", " + what + ")", Check.INDEX, () -> x.level(0, k, asked));
                Check.dueThrow("level(1, " + k + ", " + what + ")", Check.INDEX, () -> x.level(1, k, asked));
            }
        }
    }

    private static void argumentsComeBeforeLevels() {
        MatchFloor[] floors = {new MatchFloor(), Floors.busy()};
        int[] ks = {-1, 0, 2, 40};
        for (MatchFloor x : floors) {
            for (int k : ks) {
                for (int side : NOT_SIDES) {
                    Check.dueThrow("level(" + side + ", " + k + ", 0)", Check.ARGUMENT, () -> x.level(side, k, 0));
                    Check.dueThrow("level(" + side + ", " + k + ", 3)", Check.ARGUMENT, () -> x.level(side, k, 3));
                }
                for (int what : NOT_WHATS) {
                    Check.dueThrow("level(0, " + k + ", " + what + ")", Check.ARGUMENT, () -> x.level(0, k, what));
                    Check.dueThrow("level(1, " + k + ", " + what + ")", Check.ARGUMENT, () -> x.level(1, k, what));
                }
            }
        }
    }

    private static void dueLevel(String when, MatchFloor x, int side, int k, int... want) {
        for (int what = 0; what < 3; what++) {
            Check.due(when + ": level(" + side + ", " + k + ", " + what + ")", x.level(side, k, what), want[what]);
        }
    }

    private static void aLevelHasOneOrMore() {
        for (int side = 0; side < 2; side++) {
            int asked = side;
            MatchFloor x = new MatchFloor();
            Floors.limit(x, 1, 0, side, 50, 1);
            dueLevel("one", x, side, 0, 50, 1, 1);
            Floors.limit(x, 2, 0, side, 50, 2);
            dueLevel("two", x, side, 0, 50, 3, 2);
            Floors.market(x, 3, 1, 1 - side, 1);
            dueLevel("one again", x, side, 0, 50, 2, 1);
            Floors.market(x, 3, 1, 1 - side, 1);
            dueLevel("partly filled", x, side, 0, 50, 1, 1);
            Floors.market(x, 3, 1, 1 - side, 1);
            Check.due("levels", x.levels(side), 0);
            Check.dueThrow("no level", Check.INDEX, () -> x.level(asked, 0, 0));
        }
    }

    private static void fortyOnOneLevel() {
        for (int side = 0; side < 2; side++) {
            MatchFloor x = new MatchFloor();
            for (int id = 0; id < 40; id++) {
                Floors.limit(x, id, 0, side, 50, 1000000);
            }
            Check.due("levels", x.levels(side), 1);
            dueLevel("forty", x, side, 0, 50, 40000000, 40);
        }
    }

    private static void fortyLevels() {
        for (int side = 0; side < 2; side++) {
            int asked = side;
            MatchFloor x = new MatchFloor();
            for (int n = 0; n < 40; n++) {
                Floors.limit(x, n, 0, side, 1 + n * 11 % 40, 1 + n);
            }
            Check.due("levels", x.levels(side), 40);
            Check.due("the first", x.level(side, 0, 0), side == Check.BUY ? 40 : 1);
            Check.due("the last", x.level(side, 39, 0), side == Check.BUY ? 1 : 40);
            for (int k = 1; k < 40; k++) {
                int step = x.level(side, k, 0) - x.level(side, k - 1, 0);
                Check.due("from level " + (k - 1) + " to " + k, step, side == Check.BUY ? -1 : 1);
            }
            Check.dueThrow("the forty-first", Check.INDEX, () -> x.level(asked, 40, 0));
        }
    }

    private static void pricesAtTheirEnds() {
        int[] prices = {9999, 1, 10000, 2};
        int[] upwards = {1, 2, 9999, 10000};
        for (int side = 0; side < 2; side++) {
            MatchFloor x = new MatchFloor();
            for (int price : prices) {
                Floors.limit(x, price, 0, side, price, price);
            }
            for (int k = 0; k < 4; k++) {
                int price = upwards[side == Check.BUY ? 3 - k : k];
                dueLevel("the ends", x, side, k, price, price, 1);
            }
        }
    }

    private static void stopsHaveNoLevel() {
        for (int side = 0; side < 2; side++) {
            int asked = side;
            MatchFloor x = new MatchFloor();
            Floors.stop(x, 1, 0, side, 50, 1);
            Check.due("a stop alone", x.levels(side), 0);
            Check.dueThrow("a stop alone", Check.INDEX, () -> x.level(asked, 0, 0));
            Floors.limit(x, 2, 0, side, 50, 2);
            dueLevel("the resting one alone", x, side, 0, 50, 2, 1);
            Check.dueThrow("no second", Check.INDEX, () -> x.level(asked, 1, 0));
        }
    }

    private static void aSideOnlyHasItsOwn() {
        for (int side = 0; side < 2; side++) {
            int other = 1 - side;
            MatchFloor x = new MatchFloor();
            Floors.limit(x, 1, 0, side, 50, 1);
            Check.due("levels of the other", x.levels(other), 0);
            Check.dueThrow("a level of the other", Check.INDEX, () -> x.level(other, 0, 0));
        }
    }
}
