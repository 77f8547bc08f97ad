/** Promises 1 to 4: a new object, club, member, leave. */
public final class MembersTest {
    public static void main(String[] args) {
        newObject();
        objectsAreApart();
        clubs();
        members();
        leaving();
        leavingNeedsNoBalance();
        leavingNeedsNoSettlement();
        Due.end();
    }

    private static void newObject() {
        ExpenseClubs x = new ExpenseClubs();
        Due.same("NONE", ExpenseClubs.NONE, -1);
        Due.same("member(0) without clubs", x.member(0), -1);
        Due.same("count(0, 0) without clubs", x.count(0, 0), -1);
        Due.same("count(0, 3) without clubs", x.count(0, 3), -1);
        Due.same("post() without a draft", x.post(), -1);
        Due.no("payer without a draft", x.payer(0, 0));
        Due.no("weight without a draft", x.weight(0, 0));
        Due.no("line without a draft", x.line(1, 1));
        Due.same("total(0) without bills", x.total(0), -1);
        Due.same("settle(0) without clubs", x.settle(0), -1);
        Due.same("the first club", x.club(), 0);
        Due.no("payer with a club and no draft", x.payer(0, 0));
    }

    private static void objectsAreApart() {
        ExpenseClubs x = Due.clubOf(2);
        Due.lend(x, 0, 1, 5);
        x.bill(0, 1, 1, 1);
        ExpenseClubs y = new ExpenseClubs();
        Due.same("post() of another object", y.post(), -1);
        Due.same("club() of another object", y.club(), 0);
        Due.same("count of another object", y.count(0, 0), 0);
        Due.same("total of another object", y.total(0), -1);
        Due.same("balance of the first object", x.balance(0, 0), 5);
    }

    private static void clubs() {
        ExpenseClubs x = new ExpenseClubs();
        for (int c = 0; c < 4; c++) {
            Due.same("member of a club to come", x.member(c), -1);
            Due.same("club()", x.club(), c);
            Due.same("count of a new club", x.count(c, 0), 0);
        }
        Due.same("the fifth club", x.club(), -1);
        Due.same("the fifth club again", x.club(), -1);
        Due.same("member(4)", x.member(4), -1);
    }

    private static void members() {
        ExpenseClubs x = new ExpenseClubs();
        x.club();
        x.club();
        Due.same("member(-1)", x.member(-1), -1);
        Due.same("member(2)", x.member(2), -1);
        Due.same("member(min)", x.member(Integer.MIN_VALUE), -1);
        Due.same("member(max)", x.member(Integer.MAX_VALUE), -1);
        for (int m = 0; m < 12; m++) {
            Due.same("member(1)", x.member(1), m);
        }
        Due.same("the thirteenth member", x.member(1), -1);
        Due.yes("leave(1, 3)", x.leave(1, 3));
        Due.same("a member after one left", x.member(1), -1);
        Due.same("count(1, 0)", x.count(1, 0), 12);
        Due.same("member(0)", x.member(0), 0);
        Due.yes("leave(0, 0)", x.leave(0, 0));
        Due.same("member(0) after one left", x.member(0), 1);
    }

    private static void leaving() {
        ExpenseClubs x = Due.clubOf(2);
        x.club();
        Due.no("leave of no club", x.leave(2, 0));
        Due.no("leave of club -1", x.leave(-1, 0));
        Due.no("leave of a club without members", x.leave(1, 0));
        Due.no("leave(0, 2)", x.leave(0, 2));
        Due.no("leave(0, -1)", x.leave(0, -1));
        Due.no("leave(0, 12)", x.leave(0, 12));
        Due.no("leave(0, 32)", x.leave(0, 32));
        Due.no("leave(0, min)", x.leave(0, Integer.MIN_VALUE));
        Due.yes("leave(0, 1)", x.leave(0, 1));
        Due.no("leave(0, 1) again", x.leave(0, 1));
        Due.yes("leave(0, 0)", x.leave(0, 0));
        Due.same("count with those who left", x.count(0, 0), 2);
    }

    private static void leavingNeedsNoBalance() {
        ExpenseClubs x = Due.clubOf(3);
        Due.lend(x, 0, 1, 7);
        Due.no("leave with a balance above 0", x.leave(0, 0));
        Due.no("leave with a balance below 0", x.leave(0, 1));
        Due.yes("leave without a balance", x.leave(0, 2));
        Due.lend(x, 1, 0, 7);
        Due.yes("leave with a balance back at 0", x.leave(0, 0));
        Due.yes("strike", x.strike(1));
        Due.same("a balance of one who left", x.balance(0, 0), 7);
        Due.no("leave of one who left, with a balance", x.leave(0, 0));
    }

    private static void leavingNeedsNoSettlement() {
        ExpenseClubs x = Due.clubOf(2);
        x.club();
        x.member(1);
        Due.same("settle(0)", x.settle(0), 0);
        Due.no("leave while a settlement is open", x.leave(0, 0));
        Due.yes("leave of another club", x.leave(1, 0));
        Due.same("a member while a settlement is open", x.member(0), 2);
        Due.yes("close(0)", x.close(0));
        Due.yes("leave after the settlement", x.leave(0, 0));
    }
}
