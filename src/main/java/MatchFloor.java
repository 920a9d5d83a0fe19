import java.util.ArrayList;
import java.util.NoSuchElementException;

/**
 * A market in one thing: orders to buy and to sell meet by price and then by time, rest in a book,
 * wait for a price to be reached, are changed and taken back; every fill is told.
 */
public final class MatchFloor {
    public static final int LIMIT = 0;
    public static final int MARKET = 1;
    public static final int AT_ONCE = 2;
    public static final int ALL = 3;
    public static final int QUIET = 4;
    public static final int STOP = 5;

    private static final int BUYS = 0;
    private static final int SELLS = 1;
    private static final int HIGHEST_OWNER = 7;
    private static final int HIGHEST_HOW = 127;
    private static final int HIGHEST_PRICE = 10000;
    private static final int HIGHEST_QUANTITY = 1000000;
    private static final int MOST_KEPT = 40;
    private static final int NO_PRICE = 0;
    private static final int NOWHERE = -1;

    // In the order of their times, so that no time has to be written down: who comes to rest or
    // to wait goes to the end, who keeps its time keeps its place.
    private final ArrayList<Order> kept;
    private final Tape tape;
    private int dueStops;
    private int metTheirOwner;

    public MatchFloor() {
        kept = new ArrayList<Order>();
        tape = new Tape();
    }

    public int submit(int id, int how, int price, int quantity)
            throws IllegalArgumentException, IllegalStateException {
        if (how < 0 || how > HIGHEST_HOW || kindOf(how) > STOP) {
            throw new IllegalArgumentException("how names no owner, kind and side");
        }
        if (!isPrice(price) || !isQuantity(quantity)) {
            throw new IllegalArgumentException("price or quantity is out of range");
        }
        if (placeOf(id) != NOWHERE) {
            throw new IllegalStateException("a kept order has this id");
        }
        if (kept.size() >= MOST_KEPT) {
            throw new IllegalStateException("no more orders can be kept");
        }
        int kind = kindOf(how);
        Order came = new Order(id, how >> 4, how & 1, kind == STOP, price, quantity);
        if (isRefused(came, kind)) {
            throw new IllegalStateException("the order is refused as its kind says");
        }
        return comeIn(came, kind);
    }

    public int cancel(int id) throws NoSuchElementException {
        int place = placeOf(id);
        if (place == NOWHERE) {
            throw new NoSuchElementException("no kept order has this id");
        }
        return kept.remove(place).left;
    }

    public int amend(int id, int price, int quantity)
            throws IllegalArgumentException, NoSuchElementException {
        if (!isPrice(price) || !isQuantity(quantity)) {
            throw new IllegalArgumentException("price or quantity is out of range");
        }
        int place = placeOf(id);
        if (place == NOWHERE) {
            throw new NoSuchElementException("no kept order has this id");
        }
        Order order = kept.get(place);
        if (!order.waits && price == order.price && quantity <= order.left) {
            order.left = quantity;
            return 0;
        }
        kept.remove(place);
        order.price = price;
        order.left = quantity;
        return comeIn(order, order.waits ? STOP : LIMIT);
    }

    public int withdraw(int owner) throws IllegalArgumentException {
        if (owner < 0 || owner > HIGHEST_OWNER) {
            throw new IllegalArgumentException("owner is not 0 .. 7");
        }
        int before = kept.size();
        // From the end, so that a removal moves no order that is still to be looked at.
        for (int i = before - 1; i >= 0; i--) {
            if (kept.get(i).owner == owner) {
                kept.remove(i);
            }
        }
        return before - kept.size();
    }

    public int levels(int side) throws IllegalArgumentException {
        if (!isSide(side)) {
            throw new IllegalArgumentException("side is not 0 or 1");
        }
        return countLevels(side);
    }

    public int level(int side, int k, int what)
            throws IllegalArgumentException, IndexOutOfBoundsException {
        if (!isSide(side) || what < 0 || what > 2) {
            throw new IllegalArgumentException("side is not 0 or 1, or what not 0 .. 2");
        }
        if (k < 0 || k >= countLevels(side)) {
            throw new IndexOutOfBoundsException("there is no such level");
        }
        int price = priceOfLevel(side, k);
        switch (what) {
            case 0:
                return price;
            case 1:
                return leftAt(side, price);
            default:
                return ordersAt(side, price);
        }
    }

    public int order(int id, int what) throws NoSuchElementException, IllegalArgumentException {
        int place = placeOf(id);
        if (place == NOWHERE) {
            throw new NoSuchElementException("no kept order has this id");
        }
        Order order = kept.get(place);
        switch (what) {
            case 0:
                return 16 * order.owner + (order.waits ? 2 : 0) + order.side;
            case 1:
                return order.price;
            case 2:
                return order.left;
            case 3:
                return ordersBefore(place);
            default:
                throw new IllegalArgumentException("what is not 0 .. 3");
        }
    }

    public int fill(int k, int what) throws IllegalArgumentException, IndexOutOfBoundsException {
        if (what < 0 || what >= Tape.WIDTH) {
            throw new IllegalArgumentException("what is not 0 .. 3");
        }
        if (k < 0 || k >= Tape.LENGTH || k >= tape.count) {
            throw new IndexOutOfBoundsException("no such fill is told");
        }
        return tape.read(k, what);
    }

    public int fills() {
        return tape.count;
    }

    public int last() {
        return tape.lastPrice;
    }

    public long turnover() {
        return tape.worth;
    }

    public int figure(int k) throws IllegalArgumentException {
        switch (k) {
            case 0:
                return kept.size();
            case 1:
                return countWaiting();
            case 2:
                return dueStops;
            case 3:
                return metTheirOwner;
            case 4:
                return tape.quantity;
            default:
                throw new IllegalArgumentException("k is not 0 .. 4");
        }
    }

    private static int kindOf(int how) {
        return (how >> 1) & 7;
    }

    private static boolean isSide(int side) {
        return side == BUYS || side == SELLS;
    }

    private static boolean isPrice(int price) {
        return price >= 1 && price <= HIGHEST_PRICE;
    }

    private static boolean isQuantity(int quantity) {
        return quantity >= 1 && quantity <= HIGHEST_QUANTITY;
    }

    private static int otherSide(int side) {
        return side == BUYS ? SELLS : BUYS;
    }

    private static boolean isBetter(int side, int price, int than) {
        return side == BUYS ? price > than : price < than;
    }

    private int placeOf(int id) {
        for (int i = 0; i < kept.size(); i++) {
            if (kept.get(i).id == id) {
                return i;
            }
        }
        return NOWHERE;
    }

    private int placeOfFirst(int side) {
        int first = NOWHERE;
        int best = NO_PRICE;
        for (int i = 0; i < kept.size(); i++) {
            Order order = kept.get(i);
            if (order.restsOn(side) && (first == NOWHERE || isBetter(side, order.price, best))) {
                first = i;
                best = order.price;
            }
        }
        return first;
    }

    private int placeOfDue() {
        for (int i = 0; i < kept.size(); i++) {
            if (kept.get(i).isDueAt(tape.lastPrice)) {
                return i;
            }
        }
        return NOWHERE;
    }

    private boolean isRefused(Order came, int kind) {
        if (kind == ALL) {
            return leftFor(came) < came.left;
        }
        if (kind == QUIET) {
            int first = placeOfFirst(otherSide(came.side));
            return first != NOWHERE && kept.get(first).isFitBy(came.price);
        }
        return false;
    }

    private int leftFor(Order came) {
        int side = otherSide(came.side);
        int sum = 0;
        for (int i = 0; i < kept.size(); i++) {
            Order order = kept.get(i);
            if (order.restsOn(side) && order.isFitBy(came.price) && order.owner != came.owner) {
                sum += order.left;
            }
        }
        return sum;
    }

    private int comeIn(Order came, int kind) {
        int quantity = came.left;
        if (kind != QUIET && kind != STOP) {
            match(came, kind == MARKET ? NO_PRICE : came.price);
        }
        // Counted here, because the stops below may fill what has just come to rest.
        int filled = quantity - came.left;
        boolean stays = kind == LIMIT || kind == QUIET || kind == STOP;
        if (stays && came.left > 0) {
            kept.add(came);
        }
        matchDueStops();
        return filled;
    }

    private void matchDueStops() {
        // Each turn takes one out and none comes in, so there are no more turns than kept orders.
        for (int turn = 0; turn < MOST_KEPT; turn++) {
            int place = placeOfDue();
            if (place == NOWHERE) {
                return;
            }
            dueStops++;
            match(kept.remove(place), NO_PRICE);
        }
    }

    private void match(Order came, int price) {
        // Each turn but the last takes a resting order out of the book.
        for (int turn = 0; turn <= MOST_KEPT && came.left > 0; turn++) {
            int place = placeOfFirst(otherSide(came.side));
            if (place == NOWHERE || !kept.get(place).isFitBy(price)) {
                return;
            }
            meet(came, place);
        }
    }

    private void meet(Order came, int place) {
        Order resting = kept.get(place);
        if (resting.owner == came.owner) {
            kept.remove(place);
            metTheirOwner++;
            return;
        }
        int quantity = Math.min(came.left, resting.left);
        came.left -= quantity;
        resting.left -= quantity;
        tape.write(came.id, resting.id, resting.price, quantity);
        if (resting.left == 0) {
            kept.remove(place);
        }
    }

    private int countLevels(int side) {
        int count = 0;
        int price = nextPrice(side, NO_PRICE);
        while (price != NO_PRICE && count < MOST_KEPT) {
            count++;
            price = nextPrice(side, price);
        }
        return count;
    }

    private int priceOfLevel(int side, int k) {
        int price = nextPrice(side, NO_PRICE);
        for (int i = 0; i < k; i++) {
            price = nextPrice(side, price);
        }
        return price;
    }

    /** The best price of a side that is worse than the given one, or the best of all behind NO_PRICE. */
    private int nextPrice(int side, int behind) {
        int next = NO_PRICE;
        for (int i = 0; i < kept.size(); i++) {
            Order order = kept.get(i);
            boolean isBehind = behind == NO_PRICE || isBetter(side, behind, order.price);
            boolean isNearer = next == NO_PRICE || isBetter(side, order.price, next);
            if (order.restsOn(side) && isBehind && isNearer) {
                next = order.price;
            }
        }
        return next;
    }

    private int leftAt(int side, int price) {
        int sum = 0;
        for (int i = 0; i < kept.size(); i++) {
            Order order = kept.get(i);
            if (order.restsOn(side) && order.price == price) {
                sum += order.left;
            }
        }
        return sum;
    }

    private int ordersAt(int side, int price) {
        int count = 0;
        for (int i = 0; i < kept.size(); i++) {
            Order order = kept.get(i);
            if (order.restsOn(side) && order.price == price) {
                count++;
            }
        }
        return count;
    }

    private int ordersBefore(int place) {
        Order order = kept.get(place);
        int count = 0;
        for (int i = 0; i < place; i++) {
            if (kept.get(i).queuesWith(order)) {
                count++;
            }
        }
        return count;
    }

    private int countWaiting() {
        int count = 0;
        for (int i = 0; i < kept.size(); i++) {
            if (kept.get(i).waits) {
                count++;
            }
        }
        return count;
    }

    private static final class Order {
        private final int id;
        private final int owner;
        private final int side;
        private final boolean waits;
        private int price;
        private int left;

        private Order(int id, int owner, int side, boolean waits, int price, int left) {
            this.id = id;
            this.owner = owner;
            this.side = side;
            this.waits = waits;
            this.price = price;
            this.left = left;
        }

        private boolean restsOn(int asked) {
            return !waits && side == asked;
        }

        private boolean isFitBy(int offered) {
            return offered == NO_PRICE || offered == price || isBetter(otherSide(side), offered, price);
        }

        private boolean isDueAt(int lastPrice) {
            if (!waits || lastPrice == NO_PRICE) {
                return false;
            }
            return side == BUYS ? lastPrice >= price : lastPrice <= price;
        }

        private boolean queuesWith(Order other) {
            if (waits || other.waits) {
                return waits && other.waits;
            }
            return side == other.side && price == other.price;
        }
    }

    /** What all fills come to, and the latest of them one by one. */
    private static final class Tape {
        private static final int LENGTH = 32;
        private static final int WIDTH = 4;

        // A ring: the fill with number n stands in row n modulo LENGTH.
        private final int[][] rows = new int[LENGTH][WIDTH];
        private int count;
        private int lastPrice;
        private int quantity;
        private long worth;

        private Tape() {
            lastPrice = NO_PRICE;
        }

        private void write(int cameId, int restingId, int price, int filled) {
            int[] row = rows[Math.floorMod(count, LENGTH)];
            row[0] = cameId;
            row[1] = restingId;
            row[2] = price;
            row[3] = filled;
            count++;
            lastPrice = price;
            quantity += filled;
            worth += (long) price * filled;
        }

        private int read(int k, int what) {
            return rows[Math.floorMod(count - 1 - k, LENGTH)][what];
        }
    }
}
