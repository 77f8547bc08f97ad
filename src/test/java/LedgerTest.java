/** Promises 10 to 14 and the terms behind them: strike, about, total, balance, drift. */
public final class LedgerTest {
    public static void main(String[] args) {
        striking();
        strikingWithSettlements();
        aboutWrongNumbers();
        totals();
        paidCents();
        sharesAndMark();
        markRunsRound();
        greatNumbers();
        drifts();
        balances();
        Due.end();
    }

    private static void striking() {
        ExpenseClubs x = Due.clubOf(3);
        Due.no("strike(0) without bills", x.strike(0));
        Due.even(x, 100, 7);
        Due.even(x, 50, 6);
        Due.no("strike(-1)", x.strike(-1));
        Due.no("strike(2)", x.strike(2));
        Due.no("strike(64)", x.strike(64));
        Due.no("strike(min)", x.strike(Integer.MIN_VALUE));
        Due.balancesAre(x, 116, -58, -58);
        Due.yes("strike(0)", x.strike(0));
        Due.no("strike(0) again", x.strike(0));
        Due.balancesAre(x, 50, -25, -25);
        Due.same("the mark stays", x.count(0, 3), 1);
        Due.same("total of a struck bill", x.total(0), 100);
        Due.shares(x, 0, 34, 33, 33);
        Due.paid(x, 0, 100, 0, 0);
        Due.drifts(x, 0, 667, -333, -333);
        Due.same("drift", x.drift(0, 0), 0);
        Due.same("the next bill's number", Due.even(x, 1, 1), 2);
    }

    private static void strikingWithSettlements() {
        ExpenseClubs x = Due.clubOf(2);
        x.club();
        x.member(1);
        Due.lend(x, 0, 1, 10);
        x.settle(0);
        Due.no("strike while a settlement is open", x.strike(0));
        x.tick(0, 0);
        x.close(0);
        x.settle(1);
        Due.yes("strike while another club's is open", x.strike(0));
        Due.balancesAre(x, -10, 10);
    }

    private static void aboutWrongNumbers() {
        ExpenseClubs x = Due.clubOf(2);
        Due.same("about without bills", x.about(0, 0, 0), -1);
        Due.lend(x, 0, 1, 10);
        Due.same("about(1, ..)", x.about(1, 0, 0), -1);
        Due.same("about(-1, ..)", x.about(-1, 0, 0), -1);
        Due.same("about(64, ..)", x.about(64, 0, 0), -1);
        Due.same("what 3", x.about(0, 0, 3), -1);
        Due.same("what -1", x.about(0, 0, -1), -1);
        Due.same("what 3 of no member", x.about(0, 40, 3), -1);
        for (int what = 0; what < 3; what++) {
            Due.same("member -1", x.about(0, -1, what), 0);
            Due.same("member 2", x.about(0, 2, what), 0);
            Due.same("member 12", x.about(0, 12, what), 0);
            Due.same("member max", x.about(0, Integer.MAX_VALUE, what), 0);
        }
        Due.shares(x, 0, 0, 10);
        Due.paid(x, 0, 10, 0);
        Due.drifts(x, 0, 0, 0);
    }

    private static void totals() {
        int[][] cases = {
            {1, 1, 0}, {1, 499999, 0}, {1, 500000, 1}, {1, 1499999, 1}, {1, 1500000, 2},
            {1000, 1234567, 1235}, {7, 999999, 7}, {100000000, 1, 100}, {3, 333333, 1},
        };
        ExpenseClubs x = Due.clubOf(1);
        for (int b = 0; b < cases.length; b++) {
            x.bill(0, 1, cases[b][0], cases[b][1]);
            x.payer(0, cases[b][0]);
            x.weight(0, 1);
            Due.same("post()", x.post(), b);
            Due.same("total of case " + b, x.total(b), cases[b][2]);
            Due.same("share of case " + b, x.about(b, 0, 0), cases[b][2]);
        }
        Due.same("total(-1)", x.total(-1), -1);
        Due.same("total of one to come", x.total(cases.length), -1);
        Due.same("total(64)", x.total(64), -1);
    }

    private static void paidCents() {
        ExpenseClubs x = Due.clubOf(4);
        x.bill(0, 1, 3, 3666667);
        for (int m = 1; m < 4; m++) {
            x.payer(m, 1);
        }
        x.weight(0, 1);
        Due.same("post()", x.post(), 0);
        Due.same("total", x.total(0), 11);
        Due.paid(x, 0, 0, 4, 4, 3);
        x.bill(0, 1, 3, 3666667);
        for (int m = 1; m < 4; m++) {
            x.payer(m, 1);
        }
        x.weight(0, 1);
        Due.same("post()", x.post(), 1);
        Due.paid(x, 1, 0, 4, 4, 3);
    }

    private static void sharesAndMark() {
        ExpenseClubs x = Due.clubOf(4);
        Due.same("the first mark", x.count(0, 3), 0);
        Due.even(x, 101, 15);
        Due.shares(x, 0, 26, 25, 25, 25);
        Due.same("mark", x.count(0, 3), 1);
        Due.even(x, 5, 9);
        Due.shares(x, 1, 2, 0, 0, 3);
        Due.same("mark behind the last member", x.count(0, 3), 4);
        Due.even(x, 8, 15);
        Due.same("mark stays without wanting cents", x.count(0, 3), 4);
        Due.even(x, 7, 15);
        Due.shares(x, 3, 2, 2, 2, 1);
        Due.same("mark", x.count(0, 3), 3);
        x.club();
        Due.same("another club's mark", x.count(1, 3), 0);
    }

    private static void markRunsRound() {
        ExpenseClubs x = Due.clubOf(12);
        Due.even(x, 23, 4095);
        Due.same("mark", x.count(0, 3), 11);
        Due.even(x, 13, 4095);
        Due.same("share of member 11", x.about(1, 11, 0), 2);
        Due.same("behind member 11 is 0", x.count(0, 3), 0);
        Due.even(x, 11, 4095);
        Due.same("mark", x.count(0, 3), 11);
        Due.even(x, 3, 4095);
        Due.shares(x, 3, 1, 1, 0, 0, 0, 0, 0, 0, 0, 0, 0, 1);
        Due.same("mark", x.count(0, 3), 2);
    }

    private static void greatNumbers() {
        ExpenseClubs x = Due.clubOf(12);
        x.bill(0, 5, 100000000, 1000000000);
        x.payer(3, 99999999);
        x.payer(5, 1);
        x.line(99999999, 4095);
        x.line(1, 2047);
        Due.same("post()", x.post(), 0);
        Due.same("total", x.total(0), 100000000000L);
        Due.paid(x, 0, 0, 0, 0, 99999999000L, 0, 1000);
        // 99999999000 / 12 = 8333333250 for all, and 1000 / 11 = 90.9.. for all but member 11.
        Due.shares(x, 0, 8333333341L, 8333333341L, 8333333341L, 8333333341L, 8333333341L,
                8333333341L, 8333333341L, 8333333341L, 8333333341L, 8333333341L, 8333333340L, 8333333250L);
        Due.drifts(x, 0, 91, 91, 91, 91, 91, 91, 91, 91, 91, 91, -909, 0);
        Due.same("mark", x.count(0, 3), 10);
        for (int b = 1; b < 11; b++) {
            x.bill(0, 3, 100000000, 1000000000);
            x.payer(0, 100000000);
            x.weight(1, 100000000);
            Due.same("post()", x.post(), b);
        }
        Due.same("balance(0, 0)", x.balance(0, 0), 1000000000000L - 8333333341L);
        Due.same("balance(0, 1)", x.balance(0, 1), -1000000000000L - 8333333341L);
    }

    private static void drifts() {
        ExpenseClubs x = Due.clubOf(3);
        x.club();
        Due.even(x, 100, 7);
        Due.even(x, 100, 7);
        Due.drifts(x, 0, 667, -333, -333);
        Due.drifts(x, 1, -333, 667, -333);
        Due.same("drift(0, 0)", x.drift(0, 0), 334);
        Due.same("drift(0, 1)", x.drift(0, 1), 334);
        Due.same("drift(0, 2)", x.drift(0, 2), -666);
        Due.same("drift(0, 3)", x.drift(0, 3), 0);
        Due.same("drift(0, -1)", x.drift(0, -1), 0);
        Due.same("drift(0, 12)", x.drift(0, 12), 0);
        Due.same("drift(1, 0)", x.drift(1, 0), 0);
        Due.same("drift(2, 0)", x.drift(2, 0), 0);
        Due.same("drift(-1, 0)", x.drift(-1, 0), 0);
        x.strike(0);
        Due.same("drift(0, 0) after a strike", x.drift(0, 0), -333);
        Due.same("drift(0, 1) after a strike", x.drift(0, 1), 667);
    }

    private static void balances() {
        ExpenseClubs x = Due.clubOf(3);
        x.club();
        x.member(1);
        Due.balancesAre(x, 0, 0, 0);
        Due.even(x, 90, 7);
        Due.balancesAre(x, 60, -30, -30, 0);
        Due.same("another club's balance", x.balance(1, 0), 0);
        Due.same("balance(0, -1)", x.balance(0, -1), 0);
        Due.same("balance(0, 12)", x.balance(0, 12), 0);
        Due.same("balance(2, 0)", x.balance(2, 0), 0);
        Due.same("balance(-1, 0)", x.balance(-1, 0), 0);
        Due.same("balance(max, max)", x.balance(Integer.MAX_VALUE, Integer.MAX_VALUE), 0);
        x.settle(0);
        Due.transfer(x, 0, 0, 1, 0, 60, 0);
        Due.transfer(x, 0, 1, 2, 1, 30, 0);
        x.tick(0, 0);
        Due.balancesAre(x, 0, 30, -30);
        x.giveUp(0);
        Due.balancesAre(x, 0, 30, -30);
        x.strike(0);
        Due.balancesAre(x, -60, 60, 0);
    }
}
