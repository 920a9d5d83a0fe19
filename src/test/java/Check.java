import java.util.NoSuchElementException;

/** What the tests share: it prints each answer that is not the one due, and ends with exit code 1 if there was one. */
final class Check {
    static final int BUY = 0;
    static final int SELL = 1;

    static final Class<?> ARGUMENT = IllegalArgumentException.class;
    static final Class<?> STATE = IllegalStateException.class;
    static final Class<?> ELEMENT = NoSuchElementException.class;
    static final Class<?> INDEX = IndexOutOfBoundsException.class;

    private static int wrong = 0;

    private Check() {
    }

    interface Call {
        long answer();
    }

    static int how(int owner, int kind, int side) {
        return 16 * owner + 2 * kind + side;
    }

    static void due(String call, long got, long want) {
        if (got != want) {
            tell(call + " answered " + got + ", due is " + want);
        }
    }

    static void due(String call, String got, String want) {
        if (!got.equals(want)) {
            tell(call + " answered\n  " + got + "\ndue is\n  " + want);
        }
    }

    /** The class has to be the very one: a subclass would be another exception than the document names. */
    static void dueThrow(String call, Class<?> want, Call made) {
        try {
            long got = made.answer();
            tell(call + " answered " + got + ", due is " + want.getSimpleName());
        } catch (RuntimeException e) {
            if (e.getClass() != want) {
                tell(call + " threw " + e + ", due is " + want.getSimpleName());
            }
        }
    }

    /** All four answers about a kept order. */
    static void dueOrder(String when, MatchFloor x, int id, int... want) {
        for (int what = 0; what < 4; what++) {
            due(when + ": order(" + id + ", " + what + ")", x.order(id, what), want[what]);
        }
    }

    /** No kept order has this id, whoever asks. */
    static void dueGone(String when, MatchFloor x, int id) {
        for (int what = 0; what < 4; what++) {
            int asked = what;
            dueThrow(when + ": order(" + id + ", " + what + ")", ELEMENT, () -> x.order(id, asked));
        }
        dueThrow(when + ": cancel(" + id + ")", ELEMENT, () -> x.cancel(id));
        dueThrow(when + ": amend(" + id + ", 1, 1)", ELEMENT, () -> x.amend(id, 1, 1));
    }

    /** All four answers about the fill k before the latest one. */
    static void dueFill(String when, MatchFloor x, int k, int... want) {
        for (int what = 0; what < 4; what++) {
            due(when + ": fill(" + k + ", " + what + ")", x.fill(k, what), want[what]);
        }
    }

    static void dueFigures(String when, MatchFloor x, int... want) {
        for (int k = 0; k < 5; k++) {
            due(when + ": figure(" + k + ")", x.figure(k), want[k]);
        }
    }

    /** The answer as a text, with an exception told as in the issues. */
    static String answer(Call made) {
        try {
            return Long.toString(made.answer());
        } catch (RuntimeException e) {
            return "throws." + e.getClass().getSimpleName();
        }
    }

    /** All that can be asked of an object, the orders by these ids; some 60 calls for a small book. */
    static String view(MatchFloor x, int... ids) {
        StringBuilder text = new StringBuilder();
        for (int side = 0; side < 2; side++) {
            int levels = x.levels(side);
            text.append(side == BUY ? "buy" : " sell");
            for (int k = 0; k < levels; k++) {
                text.append(' ').append(x.level(side, k, 0)).append('/').append(x.level(side, k, 1));
                text.append('/').append(x.level(side, k, 2));
            }
        }
        for (int id : ids) {
            text.append(" #").append(id);
            for (int what = 0; what < 4; what++) {
                int asked = what;
                text.append(' ').append(answer(() -> x.order(id, asked)));
            }
        }
        text.append(" fills ").append(x.fills());
        for (int k = 0; k < Math.min(x.fills(), 32); k++) {
            text.append(" (");
            for (int what = 0; what < 4; what++) {
                text.append(what == 0 ? "" : " ").append(x.fill(k, what));
            }
            text.append(')');
        }
        text.append(" last ").append(x.last()).append(" turnover ").append(x.turnover()).append(" figures");
        for (int k = 0; k < 5; k++) {
            text.append(' ').append(x.figure(k));
        }
        return text.toString();
    }

    static void tell(String what) {
        wrong++;
        System.out.println(what);
    }

    static void end() {
        if (wrong != 0) {
            System.out.println(wrong + " answers are not as due");
            System.exit(1);
        }
    }
}
