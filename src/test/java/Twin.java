import java.util.List;

/**
 * Two objects that came about by the same calls. A call that must be refused is made on one of
 * them: it must give the answer that is due, and both must then show the same.
 */
final class Twin {
    interface Steps {
        void on(ExpenseClubs x);
    }

    interface Number {
        long on(ExpenseClubs x);
    }

    interface Truth {
        boolean on(ExpenseClubs x);
    }

    private Twin() {
    }

    private static ExpenseClubs made(Steps steps) {
        ExpenseClubs x = new ExpenseClubs();
        steps.on(x);
        return x;
    }

    /** The call answers what is wanted, and nothing happens. */
    static void refused(String call, Steps steps, long want, Number number) {
        ExpenseClubs x = made(steps);
        Due.same(call, number.on(x), want);
        List<String> got = Seen.of(x);
        List<String> due = Seen.of(made(steps));
        for (int k = 0; k < Math.max(got.size(), due.size()); k++) {
            String gotRow = k < got.size() ? got.get(k) : "nothing";
            String dueRow = k < due.size() ? due.get(k) : "nothing";
            if (!gotRow.equals(dueRow)) {
                Due.yes("after " + call + ": " + gotRow + ", due is " + dueRow, false);
                return;
            }
        }
    }

    /** The call answers false, and nothing happens. */
    static void no(String call, Steps steps, Truth truth) {
        refused(call, steps, 0, x -> truth.on(x) ? 1 : 0);
    }

    /** transfer throws that exception, and nothing happens. */
    static void throwing(String call, Steps steps, int want, int club, int i, int what) {
        refused(call, steps, 0, x -> {
            Due.transferThrows(x, club, i, what, want);
            return 0;
        });
    }

    /** The call answers what is wanted, and something happens that shows. */
    static void done(String call, Steps steps, long want, Number number) {
        ExpenseClubs x = made(steps);
        Due.same(call, number.on(x), want);
        Due.no("after " + call + " all is as before", Seen.of(x).equals(Seen.of(made(steps))));
    }

    /** The call answers true, and something happens that shows. */
    static void yes(String call, Steps steps, Truth truth) {
        done(call, steps, 1, x -> truth.on(x) ? 1 : 0);
    }
}
