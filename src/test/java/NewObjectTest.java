/** Promise 1: nothing is kept, there was no fill. */
public final class NewObjectTest {
    public static void main(String[] args) {
        MatchFloor x = new MatchFloor();
        Check.due("levels(0)", x.levels(0), 0);
        Check.due("levels(1)", x.levels(1), 0);
        Check.due("fills()", x.fills(), 0);
        Check.due("last()", x.last(), 0);
        Check.due("turnover()", x.turnover(), 0);
        for (int k = 0; k < 5; k++) {
            Check.due("figure(" + k + ")", x.figure(k), 0);
        }
        Check.dueThrow("level(0, 0, 0)", Check.INDEX, () -> x.level(0, 0, 0));
        Check.dueThrow("level(1, 0, 0)", Check.INDEX, () -> x.level(1, 0, 0));
        Check.dueThrow("fill(0, 0)", Check.INDEX, () -> x.fill(0, 0));
        Check.dueThrow("order(0, 0)", Check.ELEMENT, () -> x.order(0, 0));
        Check.dueThrow("cancel(0)", Check.ELEMENT, () -> x.cancel(0));
        Check.dueThrow("amend(0, 1, 1)", Check.ELEMENT, () -> x.amend(0, 1, 1));
        for (int owner = 0; owner < 8; owner++) {
            Check.due("withdraw(" + owner + ")", x.withdraw(owner), 0);
        }
        objectsShareNothing();
        Check.end();
    }

    private static void objectsShareNothing() {
        MatchFloor used = new MatchFloor();
        used.submit(1, Check.how(0, MatchFloor.LIMIT, Check.SELL), 10, 5);
        used.submit(2, Check.how(1, MatchFloor.LIMIT, Check.BUY), 10, 3);
        MatchFloor fresh = new MatchFloor();
        Check.due("a fresh object's view", Check.view(fresh, 1),
                "buy sell #1 throws.NoSuchElementException throws.NoSuchElementException"
                + " throws.NoSuchElementException throws.NoSuchElementException"
                + " fills 0 last 0 turnover 0 figures 0 0 0 0 0");
    }
}
