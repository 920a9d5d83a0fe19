import java.util.ArrayList;
import java.util.Comparator;
import java.util.List;
import java.util.NoSuchElementException;
import java.util.TreeMap;

/**
 * The document once more, as literally as can be and without a thought for room or speed: written-down
 * times, sorted copies, every fill kept. RandomRunsTest compares its answers with the program's.
 */
final class Reference {
    private static final class Kept {
        int id;
        int owner;
        int side;
        int price;
        int left;
        boolean waits;
        long time;
    }

    private final List<Kept> kept = new ArrayList<>();
    private final List<int[]> fills = new ArrayList<>();
    private long clock = 0;
    private int last = 0;
    private int due = 0;
    private int met = 0;

    int submit(int id, int how, int price, int quantity) {
        int owner = how / 16;
        int kind = how % 16 / 2;
        int side = how % 2;
        if (how < 0 || how > 127 || kind > 5 || price < 1 || price > 10000 || quantity < 1 || quantity > 1000000) {
            throw new IllegalArgumentException();
        }
        if (kept.stream().anyMatch(o -> o.id == id) || kept.size() == 40) {
            throw new IllegalStateException();
        }
        List<Kept> others = book(1 - side);
        if (kind == 3) {
            long there = others.stream().filter(o -> fits(side, price, o) && o.owner != owner).mapToLong(o -> o.left).sum();
            if (there < quantity) {
                throw new IllegalStateException();
            }
        }
        if (kind == 4 && !others.isEmpty() && fits(side, price, others.get(0))) {
            throw new IllegalStateException();
        }
        Kept came = new Kept();
        came.id = id;
        came.owner = owner;
        came.side = side;
        came.price = price;
        came.left = quantity;
        return arrive(came, kind);
    }

    private int arrive(Kept came, int kind) {
        int quantity = came.left;
        switch (kind) {
            case 0 -> {
                match(came, came.price);
                if (came.left > 0) {
                    keep(came, false);
                }
            }
            case 1 -> match(came, null);
            case 2, 3 -> match(came, came.price);
            case 4 -> keep(came, false);
            default -> keep(came, true);
        }
        int filled = kind < 4 ? quantity - came.left : 0;
        for (Kept stop = nextDue(); stop != null; stop = nextDue()) {
            due++;
            kept.remove(stop);
            match(stop, null);
        }
        return filled;
    }

    private void keep(Kept one, boolean waits) {
        one.waits = waits;
        one.time = clock++;
        kept.add((int) (one.time * 7 % (kept.size() + 1)), one);
    }

    private Kept nextDue() {
        return kept.stream().filter(o -> o.waits && last != 0 && (o.side == 0 ? last >= o.price : last <= o.price))
                .min(Comparator.comparingLong(o -> o.time)).orElse(null);
    }

    private List<Kept> book(int side) {
        Comparator<Kept> byPrice = Comparator.comparingInt(o -> side == 0 ? -o.price : o.price);
        return kept.stream().filter(o -> !o.waits && o.side == side).sorted(byPrice.thenComparingLong(o -> o.time)).toList();
    }

    private static boolean fits(int side, Integer price, Kept resting) {
        return price == null || (side == 0 ? price >= resting.price : price <= resting.price);
    }

    private void match(Kept came, Integer price) {
        for (Kept resting : book(1 - came.side)) {
            if (came.left == 0 || !fits(came.side, price, resting)) {
                return;
            }
            if (resting.owner == came.owner) {
                kept.remove(resting);
                met++;
                continue;
            }
            int quantity = Math.min(came.left, resting.left);
            came.left -= quantity;
            resting.left -= quantity;
            fills.add(0, new int[] {came.id, resting.id, resting.price, quantity});
            last = resting.price;
            if (resting.left == 0) {
                kept.remove(resting);
            }
        }
    }

    private Kept find(int id) {
        return kept.stream().filter(o -> o.id == id).findFirst().orElseThrow(NoSuchElementException::new);
    }

    int cancel(int id) {
        Kept one = find(id);
        kept.remove(one);
        return one.left;
    }

    int amend(int id, int price, int quantity) {
        if (price < 1 || price > 10000 || quantity < 1 || quantity > 1000000) {
            throw new IllegalArgumentException();
        }
        Kept one = find(id);
        if (!one.waits && one.price == price && quantity <= one.left) {
            one.left = quantity;
            return 0;
        }
        kept.remove(one);
        one.price = price;
        one.left = quantity;
        return arrive(one, one.waits ? 5 : 0);
    }

    int withdraw(int owner) {
        if (owner < 0 || owner > 7) {
            throw new IllegalArgumentException();
        }
        int before = kept.size();
        kept.removeIf(o -> o.owner == owner);
        return before - kept.size();
    }

    int levels(int side) {
        if (side != 0 && side != 1) {
            throw new IllegalArgumentException();
        }
        return (int) book(side).stream().map(o -> o.price).distinct().count();
    }

    int level(int side, int k, int what) {
        if (side != 0 && side != 1 || what < 0 || what > 2) {
            throw new IllegalArgumentException();
        }
        TreeMap<Integer, int[]> byPrice = new TreeMap<>();
        for (Kept one : book(side)) {
            int[] row = byPrice.computeIfAbsent(side == 0 ? -one.price : one.price, p -> new int[] {one.price, 0, 0});
            row[1] += one.left;
            row[2]++;
        }
        if (k < 0 || k >= byPrice.size()) {
            throw new IndexOutOfBoundsException();
        }
        return new ArrayList<>(byPrice.values()).get(k)[what];
    }

    int order(int id, int what) {
        Kept one = find(id);
        return switch (what) {
            case 0 -> 16 * one.owner + one.side + (one.waits ? 2 : 0);
            case 1 -> one.price;
            case 2 -> one.left;
            case 3 -> (int) kept.stream().filter(o -> o.time < one.time && o.waits == one.waits)
                    .filter(o -> one.waits || o.side == one.side && o.price == one.price).count();
            default -> throw new IllegalArgumentException();
        };
    }

    int fill(int k, int what) {
        if (what < 0 || what > 3) {
            throw new IllegalArgumentException();
        }
        if (k < 0 || k > 31 || k >= fills.size()) {
            throw new IndexOutOfBoundsException();
        }
        return fills.get(k)[what];
    }

    int fills() {
        return fills.size();
    }

    int last() {
        return last;
    }

    long turnover() {
        return fills.stream().mapToLong(f -> (long) f[2] * f[3]).sum();
    }

    int figure(int k) {
        return switch (k) {
            case 0 -> kept.size();
            case 1 -> (int) kept.stream().filter(o -> o.waits).count();
            case 2 -> due;
            case 3 -> met;
            case 4 -> fills.stream().mapToInt(f -> f[3]).sum();
            default -> throw new IllegalArgumentException();
        };
    }
}
