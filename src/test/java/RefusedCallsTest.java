import java.util.function.Supplier;

/**
 * "Of several exceptions that could be thrown the one named first is; such a call changes nothing": every call that is
 * refused, alone and with other wrongs beside it, on a new, a busy and a full floor. Each is made on a floor of its own
 * and all that can be asked is compared with a floor on which it was not made.
 */
public final class RefusedCallsTest {
    private static final int[] NOT_HOWS = {Integer.MIN_VALUE, -1, 12, 13, 14, 15, 60, 63, 124, 127, 128, Integer.MAX_VALUE};
    private static final int[] NOT_PRICES = {Integer.MIN_VALUE, -1, 0, 10001, Integer.MAX_VALUE};
    private static final int[] NOT_QUANTITIES = {Integer.MIN_VALUE, -1, 0, 1000001, Integer.MAX_VALUE};
    private static final int[] NOT_OWNERS = {Integer.MIN_VALUE, -1, 8, Integer.MAX_VALUE};
    private static final int[] NOT_SIDES = {Integer.MIN_VALUE, -1, 2, Integer.MAX_VALUE};
    private static final int[] NOT_FILL_PLACES = {Integer.MIN_VALUE, -1, 32, Integer.MAX_VALUE};
    private static final int[] NO_IDS = {};
    private static final int[] BUSY_IDS = {1, 2, 3, 4, 5, 6, 7};
    private static final int[] FULL_IDS = {0, 4, 5, 19, 20, 29, 30, 31, 38, 39};

    private interface Wrong {
        long of(MatchFloor x);
    }

    public static void main(String[] args) {
        new RefusedCallsTest("new", Floors::empty, NO_IDS, 0, 0).all();
        new RefusedCallsTest("busy", Floors::busy, BUSY_IDS, 2, 1).all();
        new RefusedCallsTest("full", Floors::full, FULL_IDS, 4, 33).all();
        refusedByTheirKind();
        fullFloorsRefuse();
        Check.end();
    }

    private final String name;
    private final Supplier<MatchFloor> maker;
    private final int[] kept;
    private final int sellLevels;
    private final int fills;
    private final String untouched;

    private RefusedCallsTest(String name, Supplier<MatchFloor> maker, int[] kept, int sellLevels, int fills) {
        this.name = name;
        this.maker = maker;
        this.kept = kept;
        this.sellLevels = sellLevels;
        this.fills = fills;
        this.untouched = view(maker.get());
    }

    private String view(MatchFloor x) {
        return Check.view(x, kept);
    }

    private void refused(String told, Class<?> want, Wrong call) {
        MatchFloor x = maker.get();
        Check.dueThrow(name + ": " + told, want, () -> call.of(x));
        Check.due(name + ": view behind " + told, view(x), untouched);
    }

    private void all() {
        submitWithWrongArguments(Floors.FREE_ID);
        for (int id : kept) {
            submitWithWrongArguments(id);
            submitWithAKeptId(id);
            orderOfAKeptId(id);
        }
        unknownIds();
        amendWithWrongArguments();
        withdrawAndFigure();
        levelsAndLevel();
        fill();
    }

    private void submitWithWrongArguments(int id) {
        for (int how : NOT_HOWS) {
            refused("submit(" + id + ", " + how + ", 45, 1)", Check.ARGUMENT, x -> x.submit(id, how, 45, 1));
            refused("submit(" + id + ", " + how + ", 0, 0)", Check.ARGUMENT, x -> x.submit(id, how, 0, 0));
        }
        for (int kind = 0; kind < 6; kind++) {
            int how = Check.how(7, kind, kind % 2);
            for (int price : NOT_PRICES) {
                refused("submit(" + id + ", " + how + ", " + price + ", 1)", Check.ARGUMENT, x -> x.submit(id, how, price, 1));
            }
            for (int quantity : NOT_QUANTITIES) {
                refused("submit(" + id + ", " + how + ", 45, " + quantity + ")", Check.ARGUMENT, x -> x.submit(id, how, 45, quantity));
            }
        }
    }

    private void submitWithAKeptId(int id) {
        for (int kind = 0; kind < 6; kind++) {
            for (int side = 0; side < 2; side++) {
                int how = Check.how(7, kind, side);
                refused("submit(" + id + ", " + how + ", 45, 1)", Check.STATE, x -> x.submit(id, how, 45, 1));
                refused("submit(" + id + ", " + how + ", 100, 1000)", Check.STATE, x -> x.submit(id, how, 100, 1000));
            }
        }
    }

    private void orderOfAKeptId(int id) {
        refused("order(" + id + ", -1)", Check.ARGUMENT, x -> x.order(id, -1));
        refused("order(" + id + ", 4)", Check.ARGUMENT, x -> x.order(id, 4));
    }

    private void unknownIds() {
        int[] ids = {Floors.FREE_ID, -1, 40, 1000, Integer.MIN_VALUE, Integer.MAX_VALUE};
        for (int id : ids) {
            refused("cancel(" + id + ")", Check.ELEMENT, x -> x.cancel(id));
            refused("amend(" + id + ", 45, 1)", Check.ELEMENT, x -> x.amend(id, 45, 1));
            for (int what = -1; what <= 4; what++) {
                int asked = what;
                refused("order(" + id + ", " + what + ")", Check.ELEMENT, x -> x.order(id, asked));
            }
        }
    }

    private void amendWithWrongArguments() {
        int[] ids = kept.length == 0 ? new int[] {Floors.FREE_ID} : new int[] {kept[0], kept[kept.length - 1], Floors.FREE_ID};
        for (int id : ids) {
            for (int price : NOT_PRICES) {
                refused("amend(" + id + ", " + price + ", 1)", Check.ARGUMENT, x -> x.amend(id, price, 1));
            }
            for (int quantity : NOT_QUANTITIES) {
                refused("amend(" + id + ", 45, " + quantity + ")", Check.ARGUMENT, x -> x.amend(id, 45, quantity));
            }
        }
    }

    private void withdrawAndFigure() {
        for (int owner : NOT_OWNERS) {
            refused("withdraw(" + owner + ")", Check.ARGUMENT, x -> x.withdraw(owner));
        }
        refused("figure(-1)", Check.ARGUMENT, x -> x.figure(-1));
        refused("figure(5)", Check.ARGUMENT, x -> x.figure(5));
    }

    private void levelsAndLevel() {
        for (int side : NOT_SIDES) {
            refused("levels(" + side + ")", Check.ARGUMENT, x -> x.levels(side));
            refused("level(" + side + ", 0, 0)", Check.ARGUMENT, x -> x.level(side, 0, 0));
            refused("level(" + side + ", -1, 3)", Check.ARGUMENT, x -> x.level(side, -1, 3));
        }
        int[] ks = {-1, 0, sellLevels, sellLevels + 1};
        for (int k : ks) {
            refused("level(1, " + k + ", -1)", Check.ARGUMENT, x -> x.level(1, k, -1));
            refused("level(1, " + k + ", 3)", Check.ARGUMENT, x -> x.level(1, k, 3));
        }
        for (int what = 0; what < 3; what++) {
            int asked = what;
            refused("level(1, -1, " + what + ")", Check.INDEX, x -> x.level(1, -1, asked));
            refused("level(1, " + sellLevels + ", " + what + ")", Check.INDEX, x -> x.level(1, sellLevels, asked));
        }
    }

    private void fill() {
        for (int k : NOT_FILL_PLACES) {
            refused("fill(" + k + ", 0)", Check.INDEX, x -> x.fill(k, 0));
            refused("fill(" + k + ", 4)", Check.ARGUMENT, x -> x.fill(k, 4));
        }
        refused("fill(0, -1)", Check.ARGUMENT, x -> x.fill(0, -1));
        refused("fill(" + fills + ", 3)", Check.INDEX, x -> x.fill(fills, 3));
        refused("fill(" + fills + ", -1)", Check.ARGUMENT, x -> x.fill(fills, -1));
    }

    /** A busy floor: 9 sell at 50, 15 up to 60; 7 buy at 40, 15 down to 30. */
    private static void refusedByTheirKind() {
        RefusedCallsTest busy = new RefusedCallsTest("busy", Floors::busy, BUSY_IDS, 2, 1);
        int[][] rows = {{MatchFloor.ALL, 0, 49, 1}, {MatchFloor.ALL, 0, 50, 10}, {MatchFloor.ALL, 0, 60, 16},
            {MatchFloor.ALL, 0, 10000, 1000000}, {MatchFloor.ALL, 1, 41, 1}, {MatchFloor.ALL, 1, 40, 8},
            {MatchFloor.ALL, 1, 30, 16}, {MatchFloor.QUIET, 0, 50, 1}, {MatchFloor.QUIET, 0, 10000, 1},
            {MatchFloor.QUIET, 1, 40, 1}, {MatchFloor.QUIET, 1, 1, 1000000}};
        for (int[] row : rows) {
            int how = Check.how(7, row[0], row[1]);
            busy.refused("submit(777, " + how + ", " + row[2] + ", " + row[3] + ")", Check.STATE,
                    x -> x.submit(Floors.FREE_ID, how, row[2], row[3]));
        }
        // Owner 0 has 4 of the 9 at 50.
        int ownAll = Check.how(0, MatchFloor.ALL, Check.BUY);
        busy.refused("ALL past its owner's", Check.STATE, x -> x.submit(Floors.FREE_ID, ownAll, 50, 6));
        int ownQuiet = Check.how(0, MatchFloor.QUIET, Check.BUY);
        busy.refused("QUIET at its owner's", Check.STATE, x -> x.submit(Floors.FREE_ID, ownQuiet, 50, 1));
    }

    private static void fullFloorsRefuse() {
        RefusedCallsTest full = new RefusedCallsTest("full", Floors::full, FULL_IDS, 4, 33);
        int[] prices = {1, 40, 45, 51, 10000};
        for (int how = 0; how < 128; how++) {
            int asked = how;
            for (int price : prices) {
                full.refused("submit(777, " + how + ", " + price + ", 1)", how / 2 % 8 > 5 ? Check.ARGUMENT : Check.STATE,
                        x -> x.submit(Floors.FREE_ID, asked, price, 1));
            }
        }
    }
}
