/** The boundaries of promises 10 to 14, each at its edge and just beyond it. */
public final class LedgerEdgeTest {
    public static void main(String[] args) {
        strikeOfNoBill();
        strikeOfAStruckBill();
        strikeWhileASettlementIsOpen();
        strikeAfterOneLeft();
        strikeKeepsTheMark();
        aboutNoBill();
        aboutAnotherWhat();
        aboutNoMember();
        aboutOneWithoutAny();
        aboutAStruckBill();
        aboutOneWhoLeft();
        totalOfNoBill();
        totalOfAStruckBill();
        balanceOfNone();
        balanceOfBillsNotStruck();
        balanceByTicks();
        balancesSumUpToNothing();
        driftOfNone();
        driftOfBillsNotStruck();
        Due.end();
    }

    private static Twin.Steps bills(int count) {
        return x -> Scene.bills(x, count);
    }

    // 10: "false if there is none such"
    private static void strikeOfNoBill() {
        for (int bill : Scene.NO_BILLS) {
            Twin.no("strike(" + bill + ")", Scene::clubs, x -> x.strike(bill));
        }
        Twin.yes("strike(0)", Scene::clubs, x -> x.strike(0));
        Twin.yes("strike(63) of 64", bills(64), x -> x.strike(63));
        Twin.no("strike(64) of 64", bills(64), x -> x.strike(64));
        Twin.no("strike(63) of 63", bills(63), x -> x.strike(63));
        Twin.no("strike(3), the draft's number to be", x -> Scene.draft(x, 1), x -> x.strike(3));
    }

    // 10: "it is struck"
    private static void strikeOfAStruckBill() {
        Twin.no("strike(2), which is struck", Scene::clubs, x -> x.strike(2));
        Twin.yes("strike(1), another club's", Scene::clubs, x -> x.strike(1));
    }

    // 10: "or a settlement of its club is open"
    private static void strikeWhileASettlementIsOpen() {
        Twin.no("strike(1), club 1 being settled", Scene::settling, x -> x.strike(1));
        Twin.yes("strike(0), club 1 being settled", Scene::settling, x -> x.strike(0));
        Twin.Steps givenUp = x -> {
            Scene.settling(x);
            x.giveUp(1);
        };
        Twin.yes("strike(1), given up", givenUp, x -> x.strike(1));
        Twin.Steps allTicked = x -> {
            Scene.settling(x);
            x.tick(1, 1);
        };
        Twin.no("strike(1), all ticked", allTicked, x -> x.strike(1));
        Twin.yes("strike(1), closed", x -> {
            allTicked.on(x);
            x.close(1);
        }, x -> x.strike(1));
    }

    // 10: no word that those who left keep a bill from being struck
    private static void strikeAfterOneLeft() {
        ExpenseClubs x = Due.clubOf(2);
        Due.lend(x, 0, 1, 6);
        Due.lend(x, 1, 0, 6);
        Due.yes("leave(0, 0)", x.leave(0, 0));
        Due.yes("leave(0, 1)", x.leave(0, 1));
        Due.yes("strike(0)", x.strike(0));
        Due.balancesAre(x, -6, 6);
        Due.yes("strike(1)", x.strike(1));
        Due.balancesAre(x, 0, 0);
    }

    // Terms: the mark is moved where cents are added, and nowhere else
    private static void strikeKeepsTheMark() {
        ExpenseClubs x = Due.clubOf(3);
        Due.even(x, 100, 7);
        Due.same("count(0, 3)", x.count(0, 3), 1);
        x.strike(0);
        Due.same("count(0, 3) after strike", x.count(0, 3), 1);
        Due.even(x, 100, 7);
        Due.shares(x, 1, 33, 34, 33);
    }

    // 11: "NONE if there is no such bill"
    private static void aboutNoBill() {
        for (int bill : Scene.NO_BILLS) {
            for (int what = 0; what < 3; what++) {
                int each = what;
                Twin.refused("about(" + bill + ", 0, " + what + ")", Scene::settling, -1, x -> x.about(bill, 0, each));
            }
            Twin.refused("about(" + bill + ", 99, 0)", Scene::settling, -1, x -> x.about(bill, 99, 0));
        }
        Twin.refused("about(63, 1, 0) of 64", bills(64), 1, x -> x.about(63, 1, 0));
        Twin.refused("about(64, 1, 0) of 64", bills(64), -1, x -> x.about(64, 1, 0));
        Twin.refused("about(63, 1, 0) of 63", bills(63), -1, x -> x.about(63, 1, 0));
    }

    // 11: "or for another what"
    private static void aboutAnotherWhat() {
        for (int what : new int[] {-1, 3, 4, Scene.MIN, Scene.MAX}) {
            Twin.refused("about(0, 0, " + what + ")", Scene::settling, -1, x -> x.about(0, 0, what));
            Twin.refused("about(2, 0, " + what + "), struck", Scene::settling, -1, x -> x.about(2, 0, what));
            Twin.refused("about(0, 99, " + what + ")", Scene::settling, -1, x -> x.about(0, 99, what));
        }
        Twin.refused("about(0, 0, 0)", Scene::settling, 34, x -> x.about(0, 0, 0));
        Twin.refused("about(0, 0, 1)", Scene::settling, 100, x -> x.about(0, 0, 1));
        Twin.refused("about(0, 0, 2)", Scene::settling, 667, x -> x.about(0, 0, 2));
    }

    // 11: "0 if it has none", being no member
    private static void aboutNoMember() {
        for (int member : Scene.NO_MEMBERS) {
            for (int what = 0; what < 3; what++) {
                int each = what;
                Twin.refused("about(0, " + member + ", " + what + ")", Scene::settling, 0, x -> x.about(0, member, each));
            }
        }
    }

    // 11: "0 if it has none", of one who has no weight, paid nothing, or came later
    private static void aboutOneWithoutAny() {
        ExpenseClubs x = Due.clubOf(3);
        x.bill(0, 2, 100, Due.PAR);
        x.payer(0, 100);
        x.payer(2, 0);
        x.weight(1, 3);
        x.weight(2, 0);
        Due.same("post()", x.post(), 0);
        x.member(0);
        Due.shares(x, 0, 0, 100, 0, 0);
        Due.paid(x, 0, 100, 0, 0, 0);
        Due.drifts(x, 0, 0, 0, 0, 0);
    }

    // 11: "(struck ones are there)"
    private static void aboutAStruckBill() {
        ExpenseClubs x = Due.clubOf(3);
        Due.even(x, 100, 7);
        x.strike(0);
        Due.shares(x, 0, 34, 33, 33);
        Due.paid(x, 0, 100, 0, 0);
        Due.drifts(x, 0, 667, -333, -333);
    }

    private static void aboutOneWhoLeft() {
        ExpenseClubs x = Due.clubOf(3);
        Due.even(x, 100, 7);
        x.settle(0);
        x.tick(0, 0);
        x.tick(0, 1);
        x.close(0);
        Due.yes("leave(0, 1)", x.leave(0, 1));
        Due.shares(x, 0, 34, 33, 33);
        Due.drifts(x, 0, 667, -333, -333);
        Due.same("drift of one who left", x.drift(0, 1), -333);
    }

    // 12: "NONE if there is none such"
    private static void totalOfNoBill() {
        for (int bill : Scene.NO_BILLS) {
            Twin.refused("total(" + bill + ")", Scene::settling, -1, x -> x.total(bill));
        }
        Twin.refused("total(3), the draft's number to be", x -> Scene.draft(x, 1), -1, x -> x.total(3));
        Twin.refused("total(63) of 64", bills(64), 1, x -> x.total(63));
        Twin.refused("total(64) of 64", bills(64), -1, x -> x.total(64));
        Twin.refused("total(63) of 63", bills(63), -1, x -> x.total(63));
    }

    private static void totalOfAStruckBill() {
        Twin.refused("total(2), which is struck", Scene::settling, 50, x -> x.total(2));
        ExpenseClubs x = Due.clubOf(1);
        x.bill(0, 1, 1, 499999);
        x.payer(0, 1);
        x.weight(0, 1);
        Due.same("post()", x.post(), 0);
        Due.same("a total of 0", x.total(0), 0);
        x.strike(0);
        Due.same("a total of 0, struck", x.total(0), 0);
    }

    // 13: "0 if there is none such"
    private static void balanceOfNone() {
        for (int club : Scene.NO_CLUBS) {
            Twin.refused("balance(" + club + ", 0)", Scene::settling, 0, x -> x.balance(club, 0));
        }
        for (int member : Scene.NO_MEMBERS) {
            Twin.refused("balance(0, " + member + ")", Scene::settling, 0, x -> x.balance(0, member));
            Twin.refused("balance(-1, " + member + ")", Scene::settling, 0, x -> x.balance(-1, member));
        }
        Twin.refused("balance(0, 0)", Scene::settling, 66, x -> x.balance(0, 0));
        ExpenseClubs x = Due.clubOf(12);
        Due.lend(x, 0, 11, 5);
        Due.same("balance(0, 11) of 12", x.balance(0, 11), -5);
        Due.same("balance(0, 12) of 12", x.balance(0, 12), 0);
    }

    // Terms: "of all bills that are posted and not struck"
    private static void balanceOfBillsNotStruck() {
        ExpenseClubs x = Due.clubOf(3);
        Scene.evenDraft(x, 0, 90, 7);
        Due.balancesAre(x, 0, 0, 0);
        x.post();
        Due.balancesAre(x, 60, -30, -30);
        Due.lend(x, 1, 2, 5);
        Due.balancesAre(x, 60, -25, -35);
        x.strike(0);
        Due.balancesAre(x, 0, 5, -5);
        x.strike(1);
        Due.balancesAre(x, 0, 0, 0);
    }

    // Terms: "and what it sent by transfers that are ticked, less what it got by them"
    private static void balanceByTicks() {
        ExpenseClubs x = Due.clubOf(3);
        Due.even(x, 90, 7);
        x.settle(0);
        Due.balancesAre(x, 60, -30, -30);
        x.tick(0, 1);
        Due.balancesAre(x, 60, -60, 0);
        x.tick(0, 1);
        Due.balancesAre(x, 60, -60, 0);
        x.giveUp(0);
        Due.balancesAre(x, 60, -60, 0);
        x.settle(0);
        x.tick(0, 0);
        Due.balancesAre(x, 0, 0, 0);
        x.close(0);
        Due.balancesAre(x, 0, 0, 0);
        x.strike(0);
        Due.balancesAre(x, -60, 30, 30);
    }

    // Terms: "(All of a club's sum up to 0.)"
    private static void balancesSumUpToNothing() {
        ExpenseClubs x = Due.clubOf(12);
        for (int b = 0; b < 20; b++) {
            x.bill(0, 2, 1000 + 37 * b, 900001 + 7777 * b);
            x.payer(b % 12, 1000 + 36 * b);
            x.payer((b + 5) % 12, b);
            for (int m = 0; m < 5; m++) {
                x.weight((b * m) % 12, b + m);
            }
            Due.same("post()", x.post(), b);
            long sum = 0;
            for (int m = 0; m < 12; m++) {
                sum += x.balance(0, m);
            }
            Due.same("the balances after bill " + b, sum, 0);
        }
    }

    // 14: "0 if there is none such"
    private static void driftOfNone() {
        for (int club : Scene.NO_CLUBS) {
            Twin.refused("drift(" + club + ", 0)", Scene::settling, 0, x -> x.drift(club, 0));
        }
        for (int member : Scene.NO_MEMBERS) {
            Twin.refused("drift(0, " + member + ")", Scene::settling, 0, x -> x.drift(0, member));
            Twin.refused("drift(-1, " + member + ")", Scene::settling, 0, x -> x.drift(-1, member));
        }
        Twin.refused("drift(0, 0)", Scene::settling, 667, x -> x.drift(0, 0));
        ExpenseClubs x = Due.clubOf(12);
        Due.even(x, 1, 2049);
        Due.same("drift(0, 0) of 12", x.drift(0, 0), 500);
        Due.same("drift(0, 11) of 12", x.drift(0, 11), -500);
        Due.same("drift(0, 12) of 12", x.drift(0, 12), 0);
    }

    // 14: "in all bills that are not struck, summed"
    private static void driftOfBillsNotStruck() {
        ExpenseClubs x = Due.clubOf(3);
        x.club();
        Scene.members(x, 1, 3);
        for (int b = 0; b < 3; b++) {
            Due.even(x, 100, 7);
        }
        Scene.evenDraft(x, 1, 100, 7);
        x.post();
        Due.same("drift(0, 0) of three", x.drift(0, 0), 1);
        Due.same("drift(0, 1) of three", x.drift(0, 1), 1);
        Due.same("drift(0, 2) of three", x.drift(0, 2), 1);
        Due.same("drift(1, 0), another club's", x.drift(1, 0), 667);
        x.strike(2);
        Due.same("drift(0, 0) without the last", x.drift(0, 0), 334);
        Due.same("drift(0, 2) without the last", x.drift(0, 2), -666);
        x.settle(0);
        x.tick(0, 0);
        Due.same("drift(0, 0), which no tick changes", x.drift(0, 0), 334);
        x.giveUp(0);
        x.strike(0);
        x.strike(1);
        Due.same("drift(0, 0) of none", x.drift(0, 0), 0);
    }
}
