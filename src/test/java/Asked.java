/** One call, told apart from the object that it is made on, so that the program and Reference can both be asked. */
record Asked(int method, int a, int b, int c, int d) {
    static final int SUBMIT = 0;
    static final int CANCEL = 1;
    static final int AMEND = 2;
    static final int WITHDRAW = 3;
    static final int LEVELS = 4;
    static final int LEVEL = 5;
    static final int ORDER = 6;
    static final int FILL = 7;
    static final int FILLS = 8;
    static final int LAST = 9;
    static final int TURNOVER = 10;
    static final int FIGURE = 11;

    long of(MatchFloor x) {
        return switch (method) {
            case SUBMIT -> x.submit(a, b, c, d);
            case CANCEL -> x.cancel(a);
            case AMEND -> x.amend(a, b, c);
            case WITHDRAW -> x.withdraw(a);
            case LEVELS -> x.levels(a);
            case LEVEL -> x.level(a, b, c);
            case ORDER -> x.order(a, b);
            case FILL -> x.fill(a, b);
            case FILLS -> x.fills();
            case LAST -> x.last();
            case TURNOVER -> x.turnover();
            default -> x.figure(a);
        };
    }

    long of(Reference x) {
        return switch (method) {
            case SUBMIT -> x.submit(a, b, c, d);
            case CANCEL -> x.cancel(a);
            case AMEND -> x.amend(a, b, c);
            case WITHDRAW -> x.withdraw(a);
            case LEVELS -> x.levels(a);
            case LEVEL -> x.level(a, b, c);
            case ORDER -> x.order(a, b);
            case FILL -> x.fill(a, b);
            case FILLS -> x.fills();
            case LAST -> x.last();
            case TURNOVER -> x.turnover();
            default -> x.figure(a);
        };
    }
}
