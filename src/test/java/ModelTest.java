/** Runs of up to 512 calls, the right ones and wrong ones mixed, whose answers the model gives. */
public final class ModelTest {
    private static final int RUNS = 2000;
    private static final int CALLS = 512;
    private static final int[] ODD = {
        -1, 12, 13, 16, 31, 32, 64, 4095, 4096, 100000000, 100000001, 1000000000, 1000000001,
        Integer.MIN_VALUE, Integer.MAX_VALUE, -2,
    };

    private final ExpenseClubs x = new ExpenseClubs();
    private final ClubsModel y = new ClubsModel();
    private final int run;
    private final boolean great;
    private final int clubs;
    private final int oddness;
    private long seed;
    private int calls;

    private ModelTest(int run) {
        this.run = run;
        this.seed = run * 7919L + 17;
        this.great = below(4) == 0;
        this.clubs = 1 + below(4);
        this.oddness = 2 + below(40);
    }

    public static void main(String[] args) {
        for (int run = 0; run < RUNS; run++) {
            new ModelTest(run).play();
            new ModelTest(run).playGroups();
        }
        Due.end();
    }

    private int below(int n) {
        seed = seed * 6364136223846793005L + 1442695040888963407L;
        return (int) ((seed >>> 33) % n);
    }

    /** Mostly a number from 0 to below n, at times a wrong one. */
    private int upTo(int n) {
        return below(oddness) == 0 ? ODD[below(ODD.length)] : below(n);
    }

    private void same(String call, long got, long want) {
        calls++;
        Due.same("run " + run + ", call " + calls + ": " + call, got, want);
    }

    private void same(String call, boolean got, boolean want) {
        same(call, got ? 1 : 0, want ? 1 : 0);
    }

    private void play() {
        for (int c = 0; c < clubs; c++) {
            same("club", x.club(), y.club());
            int members = 2 + below(11);
            for (int m = 0; m < members; m++) {
                same("member", x.member(c), y.member(c));
            }
        }
        for (int k = 0; k < CALLS && calls < CALLS - 130; k++) {
            step();
        }
        lookAtAll();
    }

    /** Few cents among many members, so that many sets of them sum up to 0. */
    private void playGroups() {
        same("club", x.club(), y.club());
        for (int m = 0; m < 12; m++) {
            same("member", x.member(0), y.member(0));
        }
        int most = 1 + below(9);
        for (int b = 0; b < 11; b++) {
            int cents = 1 + below(most);
            lend(below(12), below(12), cents);
        }
        same("settle", x.settle(0), y.settle(0));
        same("groups", x.count(0, 1), y.count(0, 1));
        for (int m = 0; m < 12; m++) {
            same("groupOf", x.groupOf(0, m), y.groupOf(0, m));
            for (int what = 0; what < 4; what++) {
                sameTransfer(0, m, what);
            }
        }
    }

    private void lend(int from, int to, int cents) {
        same("bill", x.bill(0, 1, cents, 1000000), y.bill(0, 1, cents, 1000000));
        same("payer", x.payer(from, cents), y.payer(from, cents));
        same("weight", x.weight(to, 1), y.weight(to, 1));
        same("post", x.post(), y.post());
    }

    private void step() {
        switch (below(12)) {
            case 0: case 1: case 2: case 3: case 4:
                wholeBill();
                break;
            case 5: case 6:
                settlement();
                break;
            case 7:
                change();
                break;
            default:
                look();
        }
    }

    private int cents() {
        return great ? 1 + below(100000000) : 1 + below(40);
    }

    private int rate() {
        return great ? 1 + below(1000000000) : below(3) > 0 ? 1000000 : 1 + below(4000000);
    }

    /** A bill that is right but for odd numbers in it; the last payer and weight fill up the sums. */
    private void wholeBill() {
        int c = upTo(clubs);
        int way = upTo(5) + 1;
        int cents = below(oddness) == 0 ? ODD[below(ODD.length)] : cents();
        int rate = rate();
        same("bill", x.bill(c, way, cents, rate), y.bill(c, way, cents, rate));
        int members = Math.max(1, y.count(c, 0));
        int paid = Math.max(0, cents);
        for (int k = below(3); k >= 0; k--) {
            int m = upTo(members);
            int part = k == 0 ? paid : below(paid + 1);
            boolean taken = y.payer(m, part);
            same("payer", x.payer(m, part), taken);
            paid -= taken ? part : 0;
        }
        if (way == 5) {
            lines(Math.max(1, cents), members);
        } else {
            weights(way, Math.max(1, cents), members);
        }
        int bill = y.post();
        same("post", x.post(), bill);
        same("mark", x.count(c, 3), y.count(c, 3));
        same("total", x.total(bill), y.total(bill));
        for (int what = 0; what < 3; what++) {
            int m = upTo(members);
            same("about", x.about(bill, m, what), y.about(bill, m, what));
        }
    }

    private void lines(int cents, int members) {
        int rest = cents;
        for (int k = below(5) == 0 ? 17 : below(4); k >= 0 && rest > 0; k--) {
            int part = k == 0 ? rest : 1 + below(rest);
            int set = below(oddness) == 0 ? ODD[below(ODD.length)] : 1 + below((1 << members) - 1);
            boolean taken = y.line(part, set);
            same("line", x.line(part, set), taken);
            rest -= taken ? part : 0;
        }
    }

    private void weights(int way, int cents, int members) {
        int rest = way == 3 ? cents : 10000;
        for (int k = below(6); k >= 0; k--) {
            int m = upTo(members);
            int n = way == 1 ? upTo(2) : way == 2 ? upTo(1001) : k == 0 ? rest : below(rest + 1);
            boolean taken = y.weight(m, n);
            same("weight", x.weight(m, n), taken);
            rest -= taken && way > 2 ? n : 0;
        }
    }

    private void settlement() {
        int c = upTo(clubs);
        same("settle", x.settle(c), y.settle(c));
        int transfers = Math.max(0, y.count(c, 2));
        for (int k = below(transfers + 3); k > 0; k--) {
            int i = upTo(transfers + 1);
            same("tick", x.tick(c, i), y.tick(c, i));
            sameTransfer(c, i, upTo(4));
        }
        int m = upTo(12);
        same("groupOf", x.groupOf(c, m), y.groupOf(c, m));
        if (below(3) > 0) {
            same("close", x.close(c), y.close(c));
        }
        if (below(8) > 0) {
            same("giveUp", x.giveUp(c), y.giveUp(c));
        }
    }

    private void change() {
        int c = upTo(clubs);
        switch (below(4)) {
            case 0:
                int m = upTo(12);
                same("leave", x.leave(c, m), y.leave(c, m));
                break;
            case 1:
                same("member", x.member(c), y.member(c));
                break;
            default:
                int b = upTo(30);
                same("strike", x.strike(b), y.strike(b));
        }
    }

    private void look() {
        int c = upTo(clubs);
        int m = upTo(12);
        int b = upTo(20);
        int what = upTo(4);
        switch (below(6)) {
            case 0:
                same("about", x.about(b, m, what), y.about(b, m, what));
                break;
            case 1:
                same("total", x.total(b), y.total(b));
                break;
            case 2:
                same("count", x.count(c, what), y.count(c, what));
                break;
            case 3:
                same("groupOf", x.groupOf(c, m), y.groupOf(c, m));
                break;
            case 4:
                sameTransfer(c, m, what);
                break;
            default:
                same("balance", x.balance(c, m), y.balance(c, m));
                same("drift", x.drift(c, m), y.drift(c, m));
        }
    }

    private void sameTransfer(int c, int i, int what) {
        String call = "transfer(" + c + ", " + i + ", " + what + ")";
        Object got;
        Object want;
        try {
            got = x.transfer(c, i, what);
        } catch (RuntimeException e) {
            got = e.getClass();
        }
        try {
            want = y.transfer(c, i, what);
        } catch (RuntimeException e) {
            want = e.getClass();
        }
        same(call + " answered " + got + " for " + want, got.equals(want), true);
    }

    private void lookAtAll() {
        for (int c = 0; c < clubs; c++) {
            for (int m = 0; m < 12; m++) {
                same("balance", x.balance(c, m), y.balance(c, m));
                same("drift", x.drift(c, m), y.drift(c, m));
            }
        }
        int c = below(clubs);
        same("giveUp", x.giveUp(c), y.giveUp(c));
        same("settle", x.settle(c), y.settle(c));
        same("groups", x.count(c, 1), y.count(c, 1));
        int transfers = y.count(c, 2);
        for (int i = 0; i < transfers && calls < CALLS - 4; i++) {
            for (int what = 0; what < 3; what++) {
                sameTransfer(c, i, what);
            }
        }
    }
}
