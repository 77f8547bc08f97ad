/** What the tests share: a count of wrong answers, and short ways to set up clubs and bills. */
final class Due {
    static final int NO_THROW = 0;
    static final int INDEX = 1;
    static final int ARGUMENT = 2;
    static final int PAR = 1000000;

    private static int wrong = 0;

    private Due() {
    }

    static void same(String what, long got, long want) {
        if (got != want) {
            wrong++;
            System.out.println(what + " answered " + got + ", due is " + want);
        }
    }

    static void yes(String what, boolean got) {
        same(what, got ? 1 : 0, 1);
    }

    static void no(String what, boolean got) {
        same(what, got ? 1 : 0, 0);
    }

    static void transfer(ExpenseClubs x, int club, int i, long... want) {
        for (int what = 0; what < want.length; what++) {
            same("transfer(" + club + ", " + i + ", " + what + ")", x.transfer(club, i, what), want[what]);
        }
    }

    static void transferThrows(ExpenseClubs x, int club, int i, int what, int want) {
        int kind = NO_THROW;
        try {
            x.transfer(club, i, what);
        } catch (RuntimeException e) {
            kind = e.getClass() == IndexOutOfBoundsException.class ? INDEX
                    : e.getClass() == IllegalArgumentException.class ? ARGUMENT : -1;
        }
        same("the exception of transfer(" + club + ", " + i + ", " + what + ")", kind, want);
    }

    /** A new object whose club 0 has so many members. */
    static ExpenseClubs clubOf(int members) {
        ExpenseClubs x = new ExpenseClubs();
        x.club();
        for (int m = 0; m < members; m++) {
            x.member(0);
        }
        return x;
    }

    /** One of club 0 pays so many cents for another, at par: its balance rises, the other's falls. */
    static int lend(ExpenseClubs x, int from, int to, int cents) {
        yes("bill", x.bill(0, 3, cents, PAR));
        yes("payer", x.payer(from, cents));
        yes("weight", x.weight(to, cents));
        return x.post();
    }

    /** Balances of club 0, by bills that the last member pays or gets; it has 0 if they sum up to 0. */
    static ExpenseClubs balances(int... cents) {
        ExpenseClubs x = clubOf(12);
        for (int m = 0; m < cents.length; m++) {
            if (cents[m] > 0) {
                lend(x, m, 11, cents[m]);
            } else if (cents[m] < 0) {
                lend(x, 11, m, -cents[m]);
            }
        }
        return x;
    }

    /** An even bill of club 0 at par that member 0 pays, for the members of a set. */
    static int even(ExpenseClubs x, int cents, int set) {
        yes("bill", x.bill(0, 1, cents, PAR));
        yes("payer", x.payer(0, cents));
        for (int m = 0; m < 12; m++) {
            if ((set >> m & 1) != 0) {
                yes("weight", x.weight(m, 1));
            }
        }
        return x.post();
    }

    static void shares(ExpenseClubs x, int bill, long... want) {
        row(x, bill, 0, want);
    }

    static void paid(ExpenseClubs x, int bill, long... want) {
        row(x, bill, 1, want);
    }

    static void drifts(ExpenseClubs x, int bill, long... want) {
        row(x, bill, 2, want);
    }

    private static void row(ExpenseClubs x, int bill, int what, long[] want) {
        for (int m = 0; m < want.length; m++) {
            same("about(" + bill + ", " + m + ", " + what + ")", x.about(bill, m, what), want[m]);
        }
    }

    static void balancesAre(ExpenseClubs x, long... want) {
        for (int m = 0; m < want.length; m++) {
            same("balance(0, " + m + ")", x.balance(0, m), want[m]);
        }
    }

    static void groupsAre(ExpenseClubs x, int... want) {
        for (int m = 0; m < want.length; m++) {
            same("groupOf(0, " + m + ")", x.groupOf(0, m), want[m]);
        }
    }

    /** To be called last in a test's main. */
    static void end() {
        System.out.println(wrong == 0 ? "all answers are as due" : wrong + " answers are not as due");
        if (wrong != 0) {
            System.exit(1);
        }
    }
}
