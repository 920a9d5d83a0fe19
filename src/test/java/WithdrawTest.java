/** Promise 5: all kept orders of an owner are cancelled. */
public final class WithdrawTest {
    public static void main(String[] args) {
        MatchFloor x = new MatchFloor();
        for (int id = 0; id < 16; id++) {
            int kind = id % 4 == 3 ? MatchFloor.STOP : MatchFloor.LIMIT;
            int side = id % 4 == 2 ? Check.BUY : Check.SELL;
            int owner = id < 8 ? 7 : id < 12 ? 0 : 7;
            x.submit(id, Check.how(owner, kind, side), side == Check.BUY ? 10 : 20, 1 + id);
        }
        String before = Check.view(x, 0, 7, 8, 11, 15);
        int[] owners = {-1, 8, Integer.MIN_VALUE, Integer.MAX_VALUE};
        for (int owner : owners) {
            Check.dueThrow("withdraw(" + owner + ")", Check.ARGUMENT, () -> x.withdraw(owner));
        }
        Check.due("view after wrong calls", Check.view(x, 0, 7, 8, 11, 15), before);
        Check.due("one that has none", x.withdraw(3), 0);
        Check.due("view after it", Check.view(x, 0, 7, 8, 11, 15), before);
        Check.due("one that rests and waits", x.withdraw(7), 12);
        Check.due("view", Check.view(x, 8, 9, 10, 11), "buy 10/11/1 sell 20/19/2 #8 1 20 9 0 #9 1 20 10 1 #10 0 10 11 0"
                + " #11 3 20 12 0 fills 0 last 0 turnover 0 figures 4 1 0 0 0");
        Check.due("again", x.withdraw(7), 0);
        Check.due("the others", x.withdraw(0), 4);
        Check.due("view", Check.view(x), "buy sell fills 0 last 0 turnover 0 figures 0 0 0 0 0");
        Check.end();
    }
}
