/** The boundaries of promises 1 to 4, each at its edge and just beyond it. */
public final class MembersEdgeTest {
    public static void main(String[] args) {
        newObjectHasNoClubs();
        newObjectHasNoBills();
        newObjectHasNoDraft();
        clubNumbers();
        noFifthClub();
        membersOfNoClub();
        memberNumbers();
        noThirteenthMember();
        thoseWhoLeftCountAmongTwelve();
        whoLeavesKeepsItsNumber();
        leaveOfNoClub();
        leaveOfNoMember();
        leaveOfOneWhoLeft();
        leaveWithABalance();
        leaveWithABalanceByATick();
        leaveWhileASettlementIsOpen();
        leaveAfterASettlement();
        Due.end();
    }

    // 1: "No clubs"
    private static void newObjectHasNoClubs() {
        Twin.Steps none = x -> { };
        for (int club : new int[] {-1, 0, 1, 3, 4, Scene.MIN, Scene.MAX}) {
            Twin.refused("member(" + club + ")", none, -1, x -> x.member(club));
            Twin.no("leave(" + club + ", 0)", none, x -> x.leave(club, 0));
            Twin.no("bill(" + club + ", ..)", none, x -> x.bill(club, 1, 1, 1));
            Twin.refused("balance(" + club + ", 0)", none, 0, x -> x.balance(club, 0));
            Twin.refused("drift(" + club + ", 0)", none, 0, x -> x.drift(club, 0));
            Twin.refused("settle(" + club + ")", none, -1, x -> x.settle(club));
            Twin.throwing("transfer(" + club + ", 0, 0)", none, Due.INDEX, club, 0, 0);
            Twin.no("tick(" + club + ", 0)", none, x -> x.tick(club, 0));
            Twin.refused("giveUp(" + club + ")", none, -1, x -> x.giveUp(club));
            Twin.no("close(" + club + ")", none, x -> x.close(club));
            Twin.refused("count(" + club + ", 0)", none, -1, x -> x.count(club, 0));
            Twin.refused("groupOf(" + club + ", 0)", none, -1, x -> x.groupOf(club, 0));
        }
    }

    // 1: a bill needs a club
    private static void newObjectHasNoBills() {
        Twin.Steps none = x -> { };
        for (int bill : new int[] {-1, 0, 1, 63, 64, Scene.MIN, Scene.MAX}) {
            Twin.no("strike(" + bill + ")", none, x -> x.strike(bill));
            Twin.refused("about(" + bill + ", 0, 0)", none, -1, x -> x.about(bill, 0, 0));
            Twin.refused("total(" + bill + ")", none, -1, x -> x.total(bill));
        }
    }

    // 1: "no draft"
    private static void newObjectHasNoDraft() {
        for (int members = 0; members < 2; members++) {
            int count = members;
            Twin.Steps noDraft = x -> {
                x.club();
                Scene.members(x, 0, count);
            };
            Twin.refused("post()", noDraft, -1, x -> x.post());
            Twin.no("payer(0, 0)", noDraft, x -> x.payer(0, 0));
            Twin.no("payer(0, 1)", noDraft, x -> x.payer(0, 1));
            Twin.no("weight(0, 0)", noDraft, x -> x.weight(0, 0));
            Twin.no("weight(0, 1)", noDraft, x -> x.weight(0, 1));
            Twin.no("line(1, 1)", noDraft, x -> x.line(1, 1));
        }
    }

    // 2: "A club more: its number"
    private static void clubNumbers() {
        for (int clubs = 0; clubs < 4; clubs++) {
            int before = clubs;
            Twin.done("club() after " + before, x -> found(x, before), before, x -> x.club());
        }
    }

    private static void found(ExpenseClubs x, int clubs) {
        for (int c = 0; c < clubs; c++) {
            x.club();
        }
    }

    // 2: "NONE if there are 4"
    private static void noFifthClub() {
        Twin.Steps four = x -> found(x, 4);
        Twin.refused("club() after 4", four, -1, x -> x.club());
        Twin.refused("club() twice after 4", four, -1, x -> Math.max(x.club(), x.club()));
        Twin.done("member(3) of 4 clubs", four, 0, x -> x.member(3));
        Twin.refused("member(4) of 4 clubs", four, -1, x -> x.member(4));
    }

    // 3: "NONE if there is no such club"
    private static void membersOfNoClub() {
        for (int club : Scene.NO_CLUBS) {
            Twin.refused("member(" + club + ")", Scene::settling, -1, x -> x.member(club));
        }
        Twin.done("member(0)", Scene::settling, 5, x -> x.member(0));
        Twin.done("member(1) while its settlement is open", Scene::settling, 3, x -> x.member(1));
    }

    // 3: "A member more in a club: its number"
    private static void memberNumbers() {
        for (int members = 0; members < 12; members++) {
            int before = members;
            Twin.done("member(0) after " + before, x -> clubOf(x, before), before, x -> x.member(0));
        }
    }

    private static void clubOf(ExpenseClubs x, int members) {
        x.club();
        Scene.members(x, 0, members);
    }

    // 3: "NONE .. if it has 12"
    private static void noThirteenthMember() {
        Twin.refused("member(0) after 12", x -> clubOf(x, 12), -1, x -> x.member(0));
        Twin.done("member(1) when club 0 has 12", x -> {
            x.club();
            clubOf(x, 12);
        }, 0, x -> x.member(1));
    }

    // 3: "or it has 12, with those who left"
    private static void thoseWhoLeftCountAmongTwelve() {
        Twin.Steps elevenAndOneGone = x -> {
            clubOf(x, 12);
            x.leave(0, 11);
        };
        Twin.refused("member(0), 1 of 12 left", elevenAndOneGone, -1, x -> x.member(0));
        Twin.Steps allGone = x -> {
            clubOf(x, 12);
            for (int m = 0; m < 12; m++) {
                x.leave(0, m);
            }
        };
        Twin.refused("member(0), 12 of 12 left", allGone, -1, x -> x.member(0));
        Twin.done("member(0), 1 of 11 left", x -> {
            clubOf(x, 11);
            x.leave(0, 0);
        }, 11, x -> x.member(0));
    }

    // Terms: "a member may LEAVE, which keeps its number"
    private static void whoLeavesKeepsItsNumber() {
        ExpenseClubs x = Due.clubOf(3);
        Due.lend(x, 0, 1, 10);
        Due.lend(x, 1, 0, 10);
        Due.yes("leave(0, 0)", x.leave(0, 0));
        Due.same("count(0, 0)", x.count(0, 0), 3);
        Due.paid(x, 0, 10, 0, 0);
        Due.shares(x, 1, 10, 0, 0);
        Due.same("the next member", x.member(0), 3);
        Due.lend(x, 3, 1, 4);
        Due.balancesAre(x, 0, -4, 0, 4);
    }

    // 4: "false if there is none such", no club
    private static void leaveOfNoClub() {
        for (int club : Scene.NO_CLUBS) {
            Twin.no("leave(" + club + ", 3)", Scene::clubs, x -> x.leave(club, 3));
        }
        Twin.yes("leave(0, 3)", Scene::clubs, x -> x.leave(0, 3));
    }

    // 4: "false if there is none such", no member
    private static void leaveOfNoMember() {
        for (int member : Scene.NO_MEMBERS) {
            Twin.no("leave(0, " + member + ")", Scene::clubs, x -> x.leave(0, member));
        }
        Twin.no("leave of a club without members", x -> x.club(), x -> x.leave(0, 0));
        Twin.yes("leave(0, 11) of 12", x -> clubOf(x, 12), x -> x.leave(0, 11));
        Twin.no("leave(0, 12) of 12", x -> clubOf(x, 12), x -> x.leave(0, 12));
        Twin.no("leave(0, 11) of 11", x -> clubOf(x, 11), x -> x.leave(0, 11));
        Twin.yes("leave(0, 0)", x -> clubOf(x, 1), x -> x.leave(0, 0));
    }

    // 4: "it left"
    private static void leaveOfOneWhoLeft() {
        Twin.no("leave(0, 4), who left", Scene::clubs, x -> x.leave(0, 4));
        ExpenseClubs x = Due.clubOf(2);
        x.club();
        x.member(1);
        Due.yes("leave(0, 0)", x.leave(0, 0));
        Due.yes("leave of the same number in another club", x.leave(1, 0));
        Due.yes("leave of another number", x.leave(0, 1));
    }

    // 4: "its balance is not 0"
    private static void leaveWithABalance() {
        Twin.Steps aCent = x -> {
            clubOf(x, 3);
            Due.lend(x, 0, 1, 1);
        };
        Twin.no("leave with a balance of 1", aCent, x -> x.leave(0, 0));
        Twin.no("leave with a balance of -1", aCent, x -> x.leave(0, 1));
        Twin.yes("leave with a balance of 0", aCent, x -> x.leave(0, 2));
        Twin.Steps nothing = x -> {
            aCent.on(x);
            Due.lend(x, 1, 0, 1);
        };
        Twin.yes("leave with a balance that came to 0", nothing, x -> x.leave(0, 0));
        Twin.Steps struck = x -> {
            aCent.on(x);
            x.strike(0);
        };
        Twin.yes("leave with a balance of a struck bill", struck, x -> x.leave(0, 1));
        Twin.Steps drafted = x -> {
            clubOf(x, 3);
            Scene.evenDraft(x, 0, 5, 2);
        };
        Twin.yes("leave of one in the draft", drafted, x -> x.leave(0, 1));
    }

    // 4: what was sent and got counts in the balance
    private static void leaveWithABalanceByATick() {
        Twin.Steps halfTicked = x -> {
            clubOf(x, 3);
            Due.even(x, 90, 7);
            x.settle(0);
            x.tick(0, 0);
            x.giveUp(0);
        };
        Twin.yes("leave(0, 0), to whom all was sent", halfTicked, x -> x.leave(0, 0));
        Twin.no("leave(0, 1), who sent too much", halfTicked, x -> x.leave(0, 1));
        Twin.no("leave(0, 2), who sent nothing", halfTicked, x -> x.leave(0, 2));
    }

    // 4: "or a settlement of the club is open"
    private static void leaveWhileASettlementIsOpen() {
        Twin.Steps empty = x -> {
            clubOf(x, 2);
            x.settle(0);
        };
        Twin.no("leave, an empty settlement being open", empty, x -> x.leave(0, 0));
        Twin.Steps allTicked = x -> {
            clubOf(x, 3);
            Due.lend(x, 0, 1, 5);
            x.settle(0);
            x.tick(0, 0);
        };
        Twin.no("leave of one in it, all being ticked", allTicked, x -> x.leave(0, 0));
        Twin.no("leave of one not in it", allTicked, x -> x.leave(0, 2));
        Twin.yes("leave, another club's being open", Scene::settling, x -> x.leave(0, 3));
    }

    private static void leaveAfterASettlement() {
        Twin.Steps closed = x -> {
            clubOf(x, 3);
            Due.lend(x, 0, 1, 5);
            x.settle(0);
            x.tick(0, 0);
            x.close(0);
        };
        Twin.yes("leave when it is closed", closed, x -> x.leave(0, 1));
        Twin.Steps givenUp = x -> {
            clubOf(x, 3);
            Due.lend(x, 0, 1, 5);
            x.settle(0);
            x.giveUp(0);
        };
        Twin.yes("leave when it is given up", givenUp, x -> x.leave(0, 2));
        Twin.no("leave when it is given up, with a balance", givenUp, x -> x.leave(0, 1));
    }
}
