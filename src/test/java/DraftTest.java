/** Promises 5 to 9: bill, payer, weight, line, post. */
public final class DraftTest {
    private static final int MAX_CENTS = 100000000;
    private static final int MAX_RATE = 1000000000;

    public static void main(String[] args) {
        billNumbers();
        billInPlaceOfAnother();
        billRefusedKeepsDraft();
        payers();
        weightsByWay();
        weightMembers();
        lines();
        sixteenLines();
        postOrder();
        postWithLeft();
        postSums();
        postInSettlement();
        sixtyFourBills();
        Due.end();
    }

    private static void billNumbers() {
        ExpenseClubs x = Due.clubOf(1);
        for (int way = 1; way <= 5; way++) {
            Due.yes("bill by way " + way, x.bill(0, way, 1, 1));
        }
        Due.no("way 0", x.bill(0, 0, 1, 1));
        Due.no("way 6", x.bill(0, 6, 1, 1));
        Due.no("way -1", x.bill(0, -1, 1, 1));
        Due.no("cents 0", x.bill(0, 1, 0, 1));
        Due.no("cents -1", x.bill(0, 1, -1, 1));
        Due.yes("most cents", x.bill(0, 1, MAX_CENTS, 1));
        Due.no("cents above", x.bill(0, 1, MAX_CENTS + 1, 1));
        Due.no("rate 0", x.bill(0, 1, 1, 0));
        Due.no("rate -1", x.bill(0, 1, 1, -1));
        Due.yes("highest rate", x.bill(0, 1, 1, MAX_RATE));
        Due.no("rate above", x.bill(0, 1, 1, MAX_RATE + 1));
        Due.no("club 1", x.bill(1, 1, 1, 1));
        Due.no("club -1", x.bill(-1, 1, 1, 1));
    }

    private static void billInPlaceOfAnother() {
        ExpenseClubs x = Due.clubOf(2);
        x.bill(0, 1, 100, Due.PAR);
        x.payer(0, 100);
        x.weight(1, 1);
        Due.yes("bill", x.bill(0, 1, 100, Due.PAR));
        Due.same("post() without payers", x.post(), -5);
        x.payer(0, 100);
        Due.same("post() without weights", x.post(), -6);
        x.bill(0, 5, 10, Due.PAR);
        x.line(10, 3);
        x.bill(0, 5, 10, Due.PAR);
        x.payer(0, 10);
        Due.same("post() without lines", x.post(), -6);
        x.line(10, 2);
        Due.same("post()", x.post(), 0);
        Due.shares(x, 0, 0, 10);
        x.bill(0, 1, 6, Due.PAR);
        x.payer(1, 6);
        x.weight(0, 1);
        Due.same("post() of the next one", x.post(), 1);
        Due.shares(x, 1, 6, 0);
        Due.paid(x, 1, 0, 6);
    }

    private static void billRefusedKeepsDraft() {
        ExpenseClubs x = Due.clubOf(2);
        x.bill(0, 1, 100, 2000000);
        x.payer(0, 100);
        x.weight(1, 1);
        Due.no("bill", x.bill(1, 2, 50, 3));
        Due.no("bill", x.bill(0, 2, 50, 0));
        Due.same("post() of the draft that was", x.post(), 0);
        Due.same("total", x.total(0), 200);
        Due.no("bill refused without a draft", x.bill(0, 7, 1, 1));
        Due.no("payer without a draft", x.payer(0, 1));
    }

    private static void payers() {
        ExpenseClubs x = Due.clubOf(3);
        x.leave(0, 2);
        Due.no("payer without a draft", x.payer(0, 1));
        x.bill(0, 1, 10, Due.PAR);
        Due.no("payer(-1)", x.payer(-1, 1));
        Due.no("payer of one to come", x.payer(3, 1));
        Due.no("payer(12)", x.payer(12, 1));
        Due.no("payer(max)", x.payer(Integer.MAX_VALUE, 1));
        Due.no("payer who left", x.payer(2, 1));
        Due.no("payer who left, no cents", x.payer(2, 0));
        Due.no("cents -1", x.payer(0, -1));
        Due.no("cents above", x.payer(0, MAX_CENTS + 1));
        Due.yes("most cents", x.payer(0, MAX_CENTS));
        Due.yes("no cents", x.payer(0, 0));
        Due.yes("payer(0, 4)", x.payer(0, 4));
        Due.yes("payer(1, 6)", x.payer(1, 6));
        Due.no("refused keeps what was", x.payer(0, -7));
        x.weight(0, 1);
        Due.same("post()", x.post(), 0);
        Due.paid(x, 0, 4, 6, 0);
        Due.no("payer after post", x.payer(0, 1));
    }

    private static void weightsByWay() {
        ExpenseClubs x = Due.clubOf(1);
        int[] most = {0, 1, 1000, MAX_CENTS, 10000};
        for (int way = 1; way <= 4; way++) {
            x.bill(0, way, 1, 1);
            Due.yes("weight 0 by way " + way, x.weight(0, 0));
            Due.yes("most weight by way " + way, x.weight(0, most[way]));
            Due.no("weight above by way " + way, x.weight(0, most[way] + 1));
            Due.no("weight -1 by way " + way, x.weight(0, -1));
            Due.no("weight min by way " + way, x.weight(0, Integer.MIN_VALUE));
        }
        x.bill(0, 5, 1, 1);
        Due.no("weight 0 by lines", x.weight(0, 0));
        Due.no("weight 1 by lines", x.weight(0, 1));
        Due.no("weight -1 by lines", x.weight(0, -1));
    }

    private static void weightMembers() {
        ExpenseClubs x = Due.clubOf(4);
        x.leave(0, 3);
        Due.no("weight without a draft", x.weight(0, 1));
        x.bill(0, 2, 10, Due.PAR);
        Due.no("weight(-1)", x.weight(-1, 1));
        Due.no("weight of one to come", x.weight(4, 1));
        Due.no("weight(12)", x.weight(12, 1));
        Due.no("weight of one who left", x.weight(3, 1));
        Due.yes("weight", x.weight(0, 7));
        Due.yes("weight in place", x.weight(0, 2));
        Due.no("weight refused", x.weight(0, 1001));
        Due.yes("weight", x.weight(1, 3));
        Due.yes("weight", x.weight(2, 9));
        Due.yes("weight back to 0", x.weight(2, 0));
        x.payer(0, 10);
        Due.same("post()", x.post(), 0);
        Due.shares(x, 0, 4, 6, 0, 0);
        Due.no("weight after post", x.weight(0, 1));
    }

    private static void lines() {
        ExpenseClubs x = Due.clubOf(4);
        x.leave(0, 1);
        Due.no("line without a draft", x.line(1, 1));
        for (int way = 1; way <= 4; way++) {
            x.bill(0, way, 1, 1);
            Due.no("line by way " + way, x.line(1, 1));
        }
        x.bill(0, 5, 100, Due.PAR);
        Due.no("cents 0", x.line(0, 1));
        Due.no("cents -1", x.line(-1, 1));
        Due.no("cents above", x.line(MAX_CENTS + 1, 1));
        Due.no("no set", x.line(1, 0));
        Due.no("a set with one who left", x.line(1, 3));
        Due.no("a set with one to come", x.line(1, 17));
        Due.no("a set with bit 31", x.line(1, Integer.MIN_VALUE | 1));
        Due.no("a set with all bits", x.line(1, -1));
        Due.no("a set with bit 12", x.line(1, 4097));
        Due.yes("line(70, 0 and 2)", x.line(70, 5));
        Due.yes("line(30, all)", x.line(30, 13));
        x.payer(0, 100);
        Due.same("post()", x.post(), 0);
        Due.shares(x, 0, 45, 0, 45, 10);
        x.bill(0, 5, MAX_CENTS, 1);
        Due.yes("most cents", x.line(MAX_CENTS, 1));
    }

    private static void sixteenLines() {
        ExpenseClubs x = Due.clubOf(2);
        x.bill(0, 5, 16, Due.PAR);
        x.payer(0, 16);
        for (int k = 0; k < 16; k++) {
            Due.no("a line refused takes no place", x.line(1, 4));
            Due.yes("line " + k, x.line(1, k < 11 ? 1 : 2));
        }
        Due.no("the seventeenth line", x.line(1, 1));
        Due.same("post()", x.post(), 0);
        Due.shares(x, 0, 11, 5);
        x.bill(0, 5, 1, Due.PAR);
        Due.yes("a line of the next draft", x.line(1, 1));
    }

    private static void postOrder() {
        ExpenseClubs x = Due.clubOf(3);
        Due.same("no draft", x.post(), -1);
        x.bill(0, 3, 100, Due.PAR);
        x.payer(2, 40);
        x.settle(0);
        Due.same("settlement open, and payers wanting", x.post(), -2);
        x.giveUp(0);
        x.leave(0, 2);
        Due.same("one left, and payers wanting", x.post(), -4);
        x.bill(0, 3, 100, Due.PAR);
        x.payer(0, 99);
        Due.same("payers below, no weights", x.post(), -5);
        x.payer(1, 2);
        Due.same("payers above, no weights", x.post(), -5);
        x.payer(1, 1);
        Due.same("no weights", x.post(), -6);
        x.weight(0, 0);
        Due.same("weights of 0", x.post(), -6);
        x.weight(0, 99);
        Due.same("weights below", x.post(), -7);
        x.weight(1, 2);
        Due.same("weights above", x.post(), -7);
        x.weight(1, 1);
        Due.same("fine", x.post(), 0);
        Due.same("no draft again", x.post(), -1);
    }

    private static void postWithLeft() {
        ExpenseClubs x = Due.clubOf(4);
        x.bill(0, 5, 10, Due.PAR);
        x.line(10, 6);
        x.payer(0, 10);
        x.payer(3, 0);
        x.leave(0, 3);
        x.leave(0, 1);
        Due.same("one of a line left", x.post(), -4);
        x.bill(0, 1, 10, Due.PAR);
        x.payer(0, 10);
        x.weight(0, 1);
        x.weight(2, 0);
        x.leave(0, 2);
        Due.same("one with a weight of 0 left", x.post(), 0);
        x.member(0);
        x.bill(0, 1, 10, Due.PAR);
        x.payer(0, 10);
        x.weight(0, 1);
        x.weight(4, 1);
        x.leave(0, 4);
        Due.same("one with a weight left", x.post(), -4);
        Due.no("its weight can't be taken back", x.weight(4, 0));
    }

    private static void postSums() {
        ExpenseClubs x = Due.clubOf(3);
        x.bill(0, 4, 5, Due.PAR);
        x.payer(0, 5);
        x.weight(0, 9999);
        Due.same("percent below", x.post(), -7);
        x.weight(1, 2);
        Due.same("percent above", x.post(), -7);
        x.weight(1, 1);
        Due.same("percent", x.post(), 0);
        x.bill(0, 5, 100, Due.PAR);
        x.payer(0, 100);
        x.line(99, 7);
        Due.same("lines below", x.post(), -7);
        x.line(1, 1);
        Due.same("lines", x.post(), 1);
        x.bill(0, 5, 100, Due.PAR);
        x.payer(0, 100);
        x.line(101, 3);
        Due.same("lines above", x.post(), -7);
        x.bill(0, 2, 1, Due.PAR);
        x.payer(0, 1);
        x.weight(1, 1000);
        x.weight(2, 1000);
        Due.same("parts have no sum", x.post(), 2);
        x.bill(0, 3, MAX_CENTS, Due.PAR);
        x.payer(0, MAX_CENTS);
        for (int m = 0; m < 3; m++) {
            x.weight(m, MAX_CENTS);
        }
        Due.same("exact far above", x.post(), -7);
    }

    private static void postInSettlement() {
        ExpenseClubs x = Due.clubOf(1);
        x.club();
        x.member(1);
        x.settle(0);
        Due.yes("a draft while a settlement is open", x.bill(0, 1, 5, Due.PAR));
        x.payer(0, 5);
        x.weight(0, 1);
        Due.same("post()", x.post(), -2);
        x.close(0);
        x.settle(1);
        Due.same("post() while another club's is open", x.post(), 0);
    }

    private static void sixtyFourBills() {
        ExpenseClubs x = Due.clubOf(1);
        x.club();
        x.member(1);
        for (int b = 0; b < 64; b++) {
            x.bill(b & 1, 1, 1, Due.PAR);
            x.payer(0, 1);
            x.weight(0, 1);
            Due.same("post()", x.post(), b);
        }
        Due.yes("strike", x.strike(5));
        x.bill(0, 1, 1, Due.PAR);
        Due.same("the bill after 64, and no payers", x.post(), -3);
        x.settle(0);
        Due.same("a settlement goes before 64 bills", x.post(), -2);
        Due.same("total(64)", x.total(64), -1);
        Due.same("total(63)", x.total(63), 1);
    }
}
