/** Promise 1: nothing is kept, there was no fill. */
public final class NewObjectTest {
    private static final int[] ANY_INTS = {Integer.MIN_VALUE, -1, 0, 1, 31, 32, 39, 40, Integer.MAX_VALUE};

    public static void main(String[] args) {
        nothingIsKept();
        noIdIsKept();
        thereWasNoFill();
        objectsShareNothing();
        Check.end();
    }

    private static void nothingIsKept() {
        MatchFloor x = new MatchFloor();
        for (int side = 0; side < 2; side++) {
            int asked = side;
            Check.due("levels(" + side + ")", x.levels(side), 0);
            for (int k : ANY_INTS) {
                Check.dueThrow("level(" + side + ", " + k + ", 0)", Check.INDEX, () -> x.level(asked, k, 0));
                Check.dueThrow("level(" + side + ", " + k + ", 2)", Check.INDEX, () -> x.level(asked, k, 2));
            }
        }
        for (int owner = 0; owner < 8; owner++) {
            Check.due("withdraw(" + owner + ")", x.withdraw(owner), 0);
        }
        Check.dueFigures("a new object", x, 0, 0, 0, 0, 0);
    }

    /** 0 among them, the value that a field has before anything is put there. */
    private static void noIdIsKept() {
        MatchFloor x = new MatchFloor();
        for (int id : ANY_INTS) {
            Check.dueGone("a new object", x, id);
        }
    }

    private static void thereWasNoFill() {
        MatchFloor x = new MatchFloor();
        for (int k : ANY_INTS) {
            for (int what = 0; what < 4; what++) {
                int asked = what;
                Check.dueThrow("fill(" + k + ", " + what + ")", Check.INDEX, () -> x.fill(k, asked));
            }
        }
        Check.due("fills()", x.fills(), 0);
        Check.due("last()", x.last(), 0);
        Check.due("turnover()", x.turnover(), 0);
    }

    private static void objectsShareNothing() {
        MatchFloor early = new MatchFloor();
        String before = Check.view(early, 1, 2);
        MatchFloor used = Floors.busy();
        Check.due("figure(0) of the used one", used.figure(0), 7);
        Check.due("view of one made before", Check.view(early, 1, 2), before);
        Check.due("view of one made after", Check.view(new MatchFloor(), 1, 2), before);
    }
}
