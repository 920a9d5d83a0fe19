import java.util.ArrayList;
import java.util.List;

/**
 * Promises 2 to 13 at once: on floors at their edges, each call with every mix of arguments at and beyond their ends is
 * made once, its answer and then all that can be asked are compared with those of Reference.
 */
public final class EdgeSweepTest {
    private static final int FREE = 99;
    private static final int[] PRICES = {Integer.MIN_VALUE, 0, 1, 2, 47, 48, 49, 50, 51, 52, 9999, 10000, 10001};
    private static final int[] QUANTITIES = {0, 1, 2, 3, 4, 8, 9, 1000000, 1000001, Integer.MAX_VALUE};
    private static final int[] OWNERS = {0, 1, 7};
    private static final int[] NOT_HOWS = {Integer.MIN_VALUE, -1, 12, 15, 127, 128, Integer.MAX_VALUE};
    private static final int[] SMALL = {Integer.MIN_VALUE, -1, 0, 1, 2, 3, 4, 5, 7, 8, 30, 31, 32, 33, 39, 40, Integer.MAX_VALUE};

    private final String name;
    private final List<Asked> before;
    private final int[] ids;

    private EdgeSweepTest(String name, List<Asked> before, int... ids) {
        this.name = name;
        this.before = before;
        this.ids = ids;
    }

    public static void main(String[] args) {
        new EdgeSweepTest("nothing", new ArrayList<>(), 1, FREE).all();
        new EdgeSweepTest("a book", book(), 1, 2, 3, 4, 5, 6, 7, 8, FREE).all();
        new EdgeSweepTest("stops before a fill", stops(book()), 1, 5, 11, 12, 13, 14, FREE).all();
        new EdgeSweepTest("stops behind a fill", stops(filled(book())), 1, 2, 5, 11, 12, 13, 14, FREE).all();
        new EdgeSweepTest("39 kept", crowd(stops(filled(book())), 39), 2, 5, 12, 14, 20, FREE).all();
        new EdgeSweepTest("40 kept", crowd(stops(filled(book())), 40), 2, 5, 12, 14, 20, FREE).all();
        Check.end();
    }

    private static Asked put(int kind, int id, int owner, int side, int price, int quantity) {
        return new Asked(Asked.SUBMIT, id, Check.how(owner, kind, side), price, quantity);
    }

    /** Ids 1 to 4 sell 3 at 50, 2 at 50, 4 at 51 and 1 at 10000, 5 to 8 buy as much at 49, 49, 48 and 1. */
    private static List<Asked> book() {
        List<Asked> calls = new ArrayList<>();
        int[][] rows = {{50, 3, 0}, {50, 2, 1}, {51, 4, 7}, {10000, 1, 0}, {49, 3, 1}, {49, 2, 0}, {48, 4, 7}, {1, 1, 1}};
        for (int n = 0; n < rows.length; n++) {
            calls.add(put(MatchFloor.LIMIT, 1 + n, rows[n][2], n < 4 ? Check.SELL : Check.BUY, rows[n][0], rows[n][1]));
        }
        return calls;
    }

    private static List<Asked> filled(List<Asked> calls) {
        calls.add(put(MatchFloor.AT_ONCE, FREE, 5, Check.BUY, 50, 1));
        return calls;
    }

    private static List<Asked> stops(List<Asked> calls) {
        calls.add(put(MatchFloor.STOP, 11, 0, Check.BUY, 51, 2));
        calls.add(put(MatchFloor.STOP, 12, 1, Check.SELL, 49, 2));
        calls.add(put(MatchFloor.STOP, 13, 7, Check.BUY, 10000, 1000000));
        calls.add(put(MatchFloor.STOP, 14, 2, Check.SELL, 1, 1));
        return calls;
    }

    private static List<Asked> crowd(List<Asked> calls, int size) {
        for (int id = 20; id < 20 + size - 12; id++) {
            calls.add(put(MatchFloor.LIMIT, id, id % 8, id % 2, id % 2 == Check.BUY ? 47 : 52, 1 + id % 3));
        }
        return calls;
    }

    private void all() {
        submits();
        amends();
        for (int a : SMALL) {
            check(new Asked(Asked.CANCEL, a, 0, 0, 0));
            check(new Asked(Asked.WITHDRAW, a, 0, 0, 0));
            check(new Asked(Asked.LEVELS, a, 0, 0, 0));
            check(new Asked(Asked.FIGURE, a, 0, 0, 0));
            for (int b : SMALL) {
                check(new Asked(Asked.ORDER, a, b, 0, 0));
                check(new Asked(Asked.FILL, a, b, 0, 0));
                check(new Asked(Asked.LEVEL, 0, a, b, 0));
                check(new Asked(Asked.LEVEL, 1, a, b, 0));
                check(new Asked(Asked.LEVEL, a, 0, b, 0));
            }
        }
    }

    private void submits() {
        for (int price : PRICES) {
            for (int quantity : QUANTITIES) {
                for (int how : NOT_HOWS) {
                    check(new Asked(Asked.SUBMIT, FREE, how, price, quantity));
                    check(new Asked(Asked.SUBMIT, ids[0], how, price, quantity));
                }
                for (int owner : OWNERS) {
                    for (int kindAndSide = 0; kindAndSide < 12; kindAndSide++) {
                        check(new Asked(Asked.SUBMIT, FREE, 16 * owner + kindAndSide, price, quantity));
                    }
                }
                check(new Asked(Asked.SUBMIT, ids[0], 0, price, quantity));
            }
        }
    }

    private void amends() {
        for (int id : ids) {
            for (int price : PRICES) {
                for (int quantity : QUANTITIES) {
                    check(new Asked(Asked.AMEND, id, price, quantity, 0));
                }
            }
        }
    }

    private void check(Asked asked) {
        MatchFloor floor = new MatchFloor();
        Reference reference = new Reference();
        for (Asked earlier : before) {
            earlier.of(floor);
            earlier.of(reference);
        }
        compare(asked, asked, floor, reference);
        for (Asked later : questions()) {
            compare(asked, later, floor, reference);
        }
    }

    private void compare(Asked edge, Asked asked, MatchFloor floor, Reference reference) {
        String got = Check.answer(() -> asked.of(floor));
        String want = Check.answer(() -> asked.of(reference));
        if (!got.equals(want)) {
            Check.tell(name + ", behind " + edge + ": " + asked + " answered " + got + ", due is " + want);
        }
    }

    private List<Asked> questions() {
        List<Asked> calls = new ArrayList<>();
        for (int k = 0; k < 4; k++) {
            for (int what = 0; what < 3; what++) {
                calls.add(new Asked(Asked.LEVEL, Check.BUY, k, what, 0));
                calls.add(new Asked(Asked.LEVEL, Check.SELL, k, what, 0));
            }
        }
        for (int id : ids) {
            for (int what = 0; what < 4; what++) {
                calls.add(new Asked(Asked.ORDER, id, what, 0, 0));
            }
        }
        for (int k = 0; k < 3; k++) {
            for (int what = 0; what < 4; what++) {
                calls.add(new Asked(Asked.FILL, k, what, 0, 0));
            }
        }
        for (int method = Asked.FILLS; method <= Asked.TURNOVER; method++) {
            calls.add(new Asked(method, 0, 0, 0, 0));
        }
        for (int k = 0; k < 5; k++) {
            calls.add(new Asked(Asked.FIGURE, k, 0, 0, 0));
        }
        return calls;
    }
}
