import java.util.ArrayList;
import java.util.List;

/**
 * All that shows of an object, as rows of calls and answers: first what the asking calls answer,
 * then what becomes of its draft, settlements, members and clubs when they are used up. Two
 * objects with the same rows are alike; neither can be used after it.
 */
final class Seen {
    private static final int MOST_CALLS = 400;
    private static final int LAST_BILL = 63;

    private final List<String> rows = new ArrayList<>();
    private final ExpenseClubs x;

    private Seen(ExpenseClubs x) {
        this.x = x;
    }

    static List<String> of(ExpenseClubs x) {
        Seen s = new Seen(x);
        s.lookAtClubs();
        s.lookAtBills();
        s.postDraft();
        s.endSettlements();
        s.postDraft();
        s.fillDraft();
        s.lookAtClubs();
        s.openSettlements();
        s.endSettlements();
        s.useUpMembers();
        Due.yes("a look of " + s.rows.size() + " calls leaves room for others in the 512", s.rows.size() <= MOST_CALLS);
        return s.rows;
    }

    private long note(String call, long answer) {
        rows.add(call + " answers " + answer);
        return answer;
    }

    private void note(String call, boolean answer) {
        note(call, answer ? 1 : 0);
    }

    private int members(int club) {
        return (int) note("count(" + club + ", 0)", x.count(club, 0));
    }

    private void lookAtClubs() {
        for (int c = 0; c < 4; c++) {
            int members = members(c);
            for (int what = 1; what < 4 && members >= 0; what++) {
                note("count(" + c + ", " + what + ")", x.count(c, what));
            }
            for (int m = 0; m < members; m++) {
                note("balance(" + c + ", " + m + ")", x.balance(c, m));
                note("drift(" + c + ", " + m + ")", x.drift(c, m));
            }
            if (members >= 0 && x.count(c, 1) >= 0) {
                lookAtSettlement(c, members);
            }
        }
    }

    private void lookAtSettlement(int club, int members) {
        for (int m = 0; m < members; m++) {
            note("groupOf(" + club + ", " + m + ")", x.groupOf(club, m));
        }
        for (int i = 0; hasTransfer(club, i); i++) {
            for (int what = 0; what < 4; what++) {
                note("transfer(" + club + ", " + i + ", " + what + ")", x.transfer(club, i, what));
            }
        }
    }

    private boolean hasTransfer(int club, int i) {
        boolean has = true;
        try {
            x.transfer(club, i, 0);
        } catch (IndexOutOfBoundsException e) {
            has = false;
        }
        note("transfer(" + club + ", " + i + ", ..)", has);
        return has;
    }

    /** The totals of all bills while they are few, and the newest two bills whole. */
    private void lookAtBills() {
        int bills = x.total(LAST_BILL) >= 0 ? LAST_BILL + 1 : 0;
        while (bills <= LAST_BILL && note("total(" + bills + ")", x.total(bills)) >= 0) {
            bills++;
        }
        for (int b = Math.max(0, bills - 2); b < bills; b++) {
            lookAtBill(b);
        }
    }

    private void lookAtBill(int bill) {
        for (int m = 0; m < 5; m++) {
            for (int what = 0; what < 3; what++) {
                note("about(" + bill + ", " + m + ", " + what + ")", x.about(bill, m, what));
            }
        }
    }

    private void postDraft() {
        int bill = (int) note("post()", x.post());
        if (bill >= 0) {
            note("total(" + bill + ")", x.total(bill));
            lookAtBill(bill);
        }
    }

    /** A draft that can't be posted still shows what it takes: how many lines, and whose weights. */
    private void fillDraft() {
        boolean taken = true;
        for (int k = 0; k < 17 && taken; k++) {
            taken = x.line(1, 1);
            note("line(1, 1)", taken);
        }
        note("payer(0, 0)", x.payer(0, 0));
        note("weight(0, 1001)", x.weight(0, 1001));
        note("weight(0, 2)", x.weight(0, 2));
    }

    private void endSettlements() {
        for (int c = 0; c < 4; c++) {
            note("giveUp(" + c + ")", x.giveUp(c));
        }
    }

    private void openSettlements() {
        for (int c = 0; c < 4; c++) {
            note("settle(" + c + ")", x.settle(c));
        }
    }

    private void useUpMembers() {
        for (int c = 0; c < 4; c++) {
            int members = members(c);
            for (int m = 0; m < members; m++) {
                note("leave(" + c + ", " + m + ")", x.leave(c, m));
            }
            note("member(" + c + ")", x.member(c));
        }
        note("club()", x.club());
    }
}
