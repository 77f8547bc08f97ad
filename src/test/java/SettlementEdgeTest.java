/** The boundaries of promises 15 to 21 and of the settlement's terms, at the edge and just beyond. */
public final class SettlementEdgeTest {
    /** No transfers of a settlement that has transfers 0 and 1. */
    private static final int[] NO_TRANSFERS = {-1, 2, 3, 10, 11, 12, 13, 32, -32, Scene.MIN, Scene.MAX};
    private static final int[] NO_WHATS = {-1, 4, 5, Scene.MIN, Scene.MAX};

    public static void main(String[] args) {
        settleOfNoClub();
        settleWhileOneIsOpen();
        settleOfNothing();
        settleAfterCloseAndGiveUp();
        settlesItsOwnClub();
        membersWithoutABalanceAreInNoGroup();
        groupsOfTwoMembers();
        oneGroupOfTwelve();
        sixGroupsOfTwo();
        fourGroupsOfThree();
        asManyGroupsAsCanBe();
        leastNumberOfTheLowest();
        leastNumberOfWhatIsLeft();
        greatBalances();
        onesWhoLeft();
        transfersOfNeighbours();
        transferOfNoClub();
        transferOfNoSettlement();
        transferOfNoTransfer();
        transferOfAnotherWhat();
        transferOfNoneAndAnotherWhat();
        transferTicked();
        tickOfNone();
        tickOfATickedOne();
        tickClearsAllBalances();
        giveUpOfNone();
        giveUpCountsWhatIsNotTicked();
        giveUpKeepsWhatIsTicked();
        closeOfNone();
        closeNeedsAllTicked();
        countOfNone();
        countOfAnotherWhat();
        countWithoutASettlement();
        countOfASettlement();
        groupOfNone();
        groupOfEach();
        Due.end();
    }

    /** Both transfers of club 1 are ticked. */
    private static void allTicked(ExpenseClubs x) {
        Scene.settling(x);
        x.tick(1, 1);
    }

    private static void closed(ExpenseClubs x) {
        allTicked(x);
        x.close(1);
    }

    private static void givenUp(ExpenseClubs x) {
        Scene.settling(x);
        x.giveUp(1);
    }

    // 15: "NONE, and nothing happens, if there is no such club"
    private static void settleOfNoClub() {
        for (int club : Scene.NO_CLUBS) {
            Twin.refused("settle(" + club + ")", Scene::settling, -1, x -> x.settle(club));
        }
        Twin.done("settle(0)", Scene::settling, 2, x -> x.settle(0));
        Twin.Steps four = x -> {
            for (int c = 0; c < 4; c++) {
                x.club();
            }
        };
        Twin.done("settle(3) of 4", four, 0, x -> x.settle(3));
        Twin.refused("settle(4) of 4", four, -1, x -> x.settle(4));
    }

    // 15: "or one is open"
    private static void settleWhileOneIsOpen() {
        Twin.refused("settle(1), one ticked", Scene::settling, -1, x -> x.settle(1));
        Twin.refused("settle(1), all ticked", SettlementEdgeTest::allTicked, -1, x -> x.settle(1));
        Twin.Steps empty = x -> {
            x.club();
            x.settle(0);
        };
        Twin.refused("settle(0), an empty one open", empty, -1, x -> x.settle(0));
    }

    // 15: "how many transfers it has": none
    private static void settleOfNothing() {
        Twin.done("settle of a club without members", x -> x.club(), 0, x -> x.settle(0));
        Twin.done("settle of a club without bills", x -> {
            x.club();
            Scene.members(x, 0, 12);
        }, 0, x -> x.settle(0));
        Twin.done("settle of balances back at 0", x -> {
            x.club();
            Scene.members(x, 0, 2);
            Due.lend(x, 0, 1, 9);
            Due.lend(x, 1, 0, 9);
        }, 0, x -> x.settle(0));
        ExpenseClubs x = Due.clubOf(2);
        x.settle(0);
        Due.same("groups", x.count(0, 1), 0);
        Due.same("not ticked", x.count(0, 2), 0);
        Due.groupsAre(x, -1, -1);
        Due.transferThrows(x, 0, 0, 0, Due.INDEX);
        Due.no("tick(0, 0)", x.tick(0, 0));
        Due.yes("close(0)", x.close(0));
    }

    // Terms: "A settlement is open until it is closed or given up"
    private static void settleAfterCloseAndGiveUp() {
        Twin.done("settle(1) when it is closed", SettlementEdgeTest::closed, 0, x -> x.settle(1));
        Twin.done("settle(1) when it is given up", SettlementEdgeTest::givenUp, 1, x -> x.settle(1));
        ExpenseClubs x = Due.clubOf(3);
        Due.even(x, 90, 7);
        for (int round = 0; round < 4; round++) {
            Due.same("settle(0), nothing ticked", x.settle(0), 2);
            Due.transfer(x, 0, 0, 1, 0, 60, 0);
            Due.transfer(x, 0, 1, 2, 1, 30, 0);
            Due.same("giveUp(0)", x.giveUp(0), 2);
        }
    }

    private static void settlesItsOwnClub() {
        ExpenseClubs x = new ExpenseClubs();
        for (int c = 0; c < 4; c++) {
            x.club();
            Scene.members(x, c, 3);
            Scene.evenDraft(x, c, 30 * (c + 1), 7);
            x.post();
        }
        for (int c = 3; c >= 0; c--) {
            Due.same("settle(" + c + ")", x.settle(c), 2);
        }
        for (int c = 0; c < 4; c++) {
            Due.transfer(x, c, 0, 1, 0, 20 * (c + 1), 0);
            Due.transfer(x, c, 1, 2, 1, 10 * (c + 1), 0);
        }
        Due.yes("tick(2, 1)", x.tick(2, 1));
        for (int c = 0; c < 4; c++) {
            Due.same("transfer(" + c + ", 1, 3)", x.transfer(c, 1, 3), c == 2 ? 1 : 0);
            Due.same("giveUp(" + c + ")", x.giveUp(c), c == 2 ? 1 : 2);
        }
    }

    // Terms: "a set of members whose balances are not 0"
    private static void membersWithoutABalanceAreInNoGroup() {
        ExpenseClubs x = Due.balances(0, 4, 0, -9, 5);
        Due.same("settle(0)", x.settle(0), 2);
        Due.same("groups", x.count(0, 1), 1);
        Due.groupsAre(x, -1, 0, -1, 0, 0, -1, -1, -1, -1, -1, -1, -1, -1);
        Due.transfer(x, 0, 0, 3, 1, 4, 0);
        Due.transfer(x, 0, 1, 3, 4, 5, 0);
    }

    private static void groupsOfTwoMembers() {
        ExpenseClubs x = Due.balances(1, -1);
        Due.same("settle(0)", x.settle(0), 1);
        Due.transfer(x, 0, 0, 1, 0, 1, 0);
        ExpenseClubs y = Due.balances(-1, 1);
        Due.same("settle(0)", y.settle(0), 1);
        Due.transfer(y, 0, 0, 0, 1, 1, 0);
        ExpenseClubs z = Due.balances(0, 0, 0, 0, 0, 0, 0, 0, 0, 0, 7);
        Due.same("settle(0) of members 10 and 11", z.settle(0), 1);
        Due.transfer(z, 0, 0, 11, 10, 7, 0);
        Due.same("groupOf(0, 11)", z.groupOf(0, 11), 0);
    }

    // No set of them but all sums up to 0: the most transfers there can be.
    private static void oneGroupOfTwelve() {
        ExpenseClubs x = Due.balances(1, 2, 4, 8, 16, 32, 64, 128, 256, 512, 1024);
        Due.same("settle(0)", x.settle(0), 11);
        Due.same("groups", x.count(0, 1), 1);
        Due.same("not ticked", x.count(0, 2), 11);
        Due.groupsAre(x, 0, 0, 0, 0, 0, 0, 0, 0, 0, 0, 0, 0);
        for (int i = 0; i < 11; i++) {
            Due.transfer(x, 0, i, i + 1, i, (2 << i) - 1, 0);
        }
        Due.transferThrows(x, 0, 11, 0, Due.INDEX);
        Due.no("tick(0, 11)", x.tick(0, 11));
        Due.yes("tick(0, 10)", x.tick(0, 10));
    }

    // The fewest transfers for twelve.
    private static void sixGroupsOfTwo() {
        ExpenseClubs x = Due.balances(3, 3, 3, 3, 3, 3, -3, -3, -3, -3, -3);
        Due.same("settle(0)", x.settle(0), 6);
        Due.same("groups", x.count(0, 1), 6);
        Due.groupsAre(x, 0, 1, 2, 3, 4, 5, 0, 1, 2, 3, 4, 5);
        for (int i = 0; i < 6; i++) {
            Due.transfer(x, 0, i, i + 6, i, 3, 0);
        }
    }

    private static void fourGroupsOfThree() {
        ExpenseClubs x = Due.balances(1, 10, 100, 1000, 2, 20, 200, 2000, -3, -30, -300);
        Due.same("settle(0)", x.settle(0), 8);
        Due.same("groups", x.count(0, 1), 4);
        Due.groupsAre(x, 0, 1, 2, 3, 0, 1, 2, 3, 0, 1, 2, 3);
        for (int g = 0, ten = 1; g < 4; g++, ten *= 10) {
            Due.transfer(x, 0, 2 * g, g + 4, g, ten, 0);
            Due.transfer(x, 0, 2 * g + 1, g + 8, g + 4, 3 * ten, 0);
        }
    }

    // Terms: "divided into as many groups as can be", before any group is the least one
    private static void asManyGroupsAsCanBe() {
        // 0 with 1 and 2 is 7, but then 3, 4 and 5 are one group more; 0 with 5 leaves two.
        ExpenseClubs x = Due.balances(3, -1, -2, 1, 2, -3);
        Due.same("settle(0)", x.settle(0), 3);
        Due.groupsAre(x, 0, 1, 2, 1, 2, 0);
        // 0, 1 and 2 are 7, but the other six are one group then; 0, 3 and 4 are 25 and leave two.
        ExpenseClubs y = Due.balances(10, -7, -3, -1, -9, 2, 5, 20, -17);
        Due.same("settle(0)", y.settle(0), 6);
        Due.same("groups", y.count(0, 1), 3);
        Due.groupsAre(y, 0, 1, 2, 0, 0, 1, 1, 2, 2);
    }

    // Terms: "the lowest member's group is the least one as a number"
    private static void leastNumberOfTheLowest() {
        ExpenseClubs x = Due.balances(2, -2, -2, 2);
        x.settle(0);
        Due.groupsAre(x, 0, 0, 1, 1);
        // Three members 0, 1 and 2 are 7, two members 0 and 3 are 9.
        ExpenseClubs y = Due.balances(3, -1, -2, -3, 3);
        y.settle(0);
        Due.groupsAre(y, 0, 0, 0, 1, 1);
        // 0, 1 and 3 are 11, 0 and 4 are 17: both leave one group.
        ExpenseClubs z = Due.balances(5, -2, 7, -3, -5, -2);
        z.settle(0);
        Due.groupsAre(z, 0, 0, 1, 0, 1, 1);
        // The lowest with a balance is 2.
        ExpenseClubs w = Due.balances(0, 0, -4, 0, 4, 4, 0, -4);
        w.settle(0);
        Due.groupsAre(w, -1, -1, 0, -1, 0, 1, -1, 1);
    }

    // Terms: "then, of what is left, the lowest member's group, and so on"
    private static void leastNumberOfWhatIsLeft() {
        ExpenseClubs x = Due.balances(1, -1, 2, -2, -2, 2);
        x.settle(0);
        Due.groupsAre(x, 0, 0, 1, 1, 2, 2);
        // Of 1, 2, 3, 4, 5 the groups 1, 2, 3 (with 4, 5) and 1, 4 (with 2, 3, 5) both are two.
        ExpenseClubs y = Due.balances(9, 4, -1, -3, -4, 4, -9);
        Due.same("settle(0)", y.settle(0), 4);
        Due.groupsAre(y, 0, 1, 1, 1, 2, 2, 0);
        // The third group: 4 with 5, 6 or with 7.
        ExpenseClubs z = Due.balances(8, -8, 7, -7, 6, -2, -4, -6, 6);
        Due.same("settle(0)", z.settle(0), 5);
        Due.groupsAre(z, 0, 0, 1, 1, 2, 2, 2, 3, 3);
    }

    // 62 bills of the greatest total among twelve.
    private static void greatBalances() {
        ExpenseClubs x = Due.clubOf(12);
        for (int b = 0; b < 62; b++) {
            x.bill(0, 3, Scene.MOST_CENTS, Scene.MOST_RATE);
            x.payer(b % 2, Scene.MOST_CENTS);
            x.weight(10 + b % 2, Scene.MOST_CENTS);
            Due.same("post()", x.post(), b);
        }
        Due.same("balance(0, 0)", x.balance(0, 0), 3100000000000L);
        Due.same("balance(0, 11)", x.balance(0, 11), -3100000000000L);
        Due.same("settle(0)", x.settle(0), 2);
        Due.transfer(x, 0, 0, 10, 0, 3100000000000L, 0);
        Due.transfer(x, 0, 1, 11, 1, 3100000000000L, 0);
        Due.yes("tick(0, 0)", x.tick(0, 0));
        Due.yes("tick(0, 1)", x.tick(0, 1));
        Due.balancesAre(x, 0, 0, 0, 0, 0, 0, 0, 0, 0, 0, 0, 0);
    }

    // A strike can give one who left a balance: it is a member "whose balance is not 0".
    private static void onesWhoLeft() {
        ExpenseClubs x = Due.clubOf(3);
        Due.lend(x, 0, 2, 8);
        Due.lend(x, 2, 0, 8);
        x.leave(0, 0);
        x.leave(0, 2);
        Due.same("settle(0)", x.settle(0), 0);
        x.close(0);
        x.strike(0);
        Due.same("settle(0)", x.settle(0), 1);
        Due.transfer(x, 0, 0, 0, 2, 8, 0);
        Due.groupsAre(x, 0, -1, 0);
    }

    // Terms: "if s is below 0, a sends - s to b; else b sends s to a"
    private static void transfersOfNeighbours() {
        ExpenseClubs x = Due.balances(-5, 2, 6, -7, 4);
        Due.same("settle(0)", x.settle(0), 4);
        Due.transfer(x, 0, 0, 0, 1, 5, 0);
        Due.transfer(x, 0, 1, 1, 2, 3, 0);
        Due.transfer(x, 0, 2, 3, 2, 3, 0);
        Due.transfer(x, 0, 3, 3, 4, 4, 0);
        // Two groups whose members alternate: "group by group", neighbours "of it".
        ExpenseClubs y = Due.balances(1, 10, -30, 2, 20, -3);
        Due.same("settle(0)", y.settle(0), 4);
        Due.groupsAre(y, 0, 1, 1, 0, 1, 0);
        Due.transfer(y, 0, 0, 3, 0, 1, 0);
        Due.transfer(y, 0, 1, 5, 3, 3, 0);
        Due.transfer(y, 0, 2, 2, 1, 10, 0);
        Due.transfer(y, 0, 3, 2, 4, 20, 0);
    }

    // 16: "IndexOutOfBoundsException if there is no such club"
    private static void transferOfNoClub() {
        for (int club : Scene.NO_CLUBS) {
            for (int what = 0; what < 4; what++) {
                Twin.throwing("transfer(" + club + ", 0, " + what + ")", Scene::settling, Due.INDEX, club, 0, what);
            }
        }
        Twin.throwing("transfer(1, 0, 0)", Scene::settling, Due.NO_THROW, 1, 0, 0);
    }

    // 16: "settlement"
    private static void transferOfNoSettlement() {
        for (int what = 0; what < 4; what++) {
            Twin.throwing("transfer, none open yet", Scene::settling, Due.INDEX, 0, 0, what);
            Twin.throwing("transfer, given up", SettlementEdgeTest::givenUp, Due.INDEX, 1, 0, what);
            Twin.throwing("transfer, closed", SettlementEdgeTest::closed, Due.INDEX, 1, 0, what);
        }
    }

    // 16: "or transfer", "from 0 on"
    private static void transferOfNoTransfer() {
        for (int i : NO_TRANSFERS) {
            for (int what = 0; what < 4; what++) {
                Twin.throwing("transfer(1, " + i + ", " + what + ")", Scene::settling, Due.INDEX, 1, i, what);
            }
        }
        Twin.throwing("transfer(1, 1, 0)", Scene::settling, Due.NO_THROW, 1, 1, 0);
        ExpenseClubs x = Due.clubOf(3);
        Due.even(x, 90, 7);
        x.settle(0);
        x.tick(0, 0);
        x.giveUp(0);
        Due.same("settle(0), fewer than before", x.settle(0), 1);
        Due.transferThrows(x, 0, 0, 0, Due.NO_THROW);
        Due.transferThrows(x, 0, 1, 0, Due.INDEX);
    }

    // 16: "IllegalArgumentException for another what"
    private static void transferOfAnotherWhat() {
        for (int what : NO_WHATS) {
            Twin.throwing("transfer(1, 0, " + what + ")", Scene::settling, Due.ARGUMENT, 1, 0, what);
            Twin.throwing("transfer(1, 1, " + what + ")", Scene::settling, Due.ARGUMENT, 1, 1, what);
        }
        Twin.throwing("transfer(1, 0, 3)", Scene::settling, Due.NO_THROW, 1, 0, 3);
    }

    // 16: where both are wrong, the exception that the document names first
    private static void transferOfNoneAndAnotherWhat() {
        for (int what : NO_WHATS) {
            Twin.throwing("transfer(2, 0, " + what + ")", Scene::settling, Due.INDEX, 2, 0, what);
            Twin.throwing("transfer(0, 0, " + what + ")", Scene::settling, Due.INDEX, 0, 0, what);
            Twin.throwing("transfer(1, 2, " + what + ")", Scene::settling, Due.INDEX, 1, 2, what);
            Twin.throwing("transfer(1, -1, " + what + ")", Scene::settling, Due.INDEX, 1, -1, what);
        }
    }

    // 16: "3: 1 if it is ticked, else 0"
    private static void transferTicked() {
        ExpenseClubs x = Due.clubOf(3);
        Due.even(x, 90, 7);
        x.settle(0);
        Due.transfer(x, 0, 0, 1, 0, 60, 0);
        x.tick(0, 0);
        Due.transfer(x, 0, 0, 1, 0, 60, 1);
        Due.transfer(x, 0, 1, 2, 1, 30, 0);
        x.giveUp(0);
        x.settle(0);
        Due.transfer(x, 0, 0, 2, 1, 30, 0);
    }

    // 17: "false if there is none such"
    private static void tickOfNone() {
        for (int club : Scene.NO_CLUBS) {
            Twin.no("tick(" + club + ", 1)", Scene::settling, x -> x.tick(club, 1));
        }
        for (int i : NO_TRANSFERS) {
            Twin.no("tick(1, " + i + ")", Scene::settling, x -> x.tick(1, i));
        }
        Twin.no("tick(0, 0), none open", Scene::settling, x -> x.tick(0, 0));
        Twin.no("tick(1, 1), given up", SettlementEdgeTest::givenUp, x -> x.tick(1, 1));
        Twin.no("tick(1, 1), closed", SettlementEdgeTest::closed, x -> x.tick(1, 1));
        Twin.yes("tick(1, 1)", Scene::settling, x -> x.tick(1, 1));
    }

    // 17: "or it is"
    private static void tickOfATickedOne() {
        Twin.no("tick(1, 0) again", Scene::settling, x -> x.tick(1, 0));
        Twin.no("tick(1, 1) again", SettlementEdgeTest::allTicked, x -> x.tick(1, 1));
    }

    // "settlements that clear all balances"
    private static void tickClearsAllBalances() {
        ExpenseClubs x = Due.balances(1, -2, 4, -8, 16, -32, 64, -128, 256, -512, 1024);
        int transfers = x.settle(0);
        for (int i = transfers - 1; i >= 0; i--) {
            Due.same("not ticked", x.count(0, 2), i + 1);
            Due.no("close(0)", x.close(0));
            Due.yes("tick(0, " + i + ")", x.tick(0, i));
        }
        Due.balancesAre(x, 0, 0, 0, 0, 0, 0, 0, 0, 0, 0, 0, 0);
        Due.yes("close(0)", x.close(0));
        Due.same("settle(0)", x.settle(0), 0);
    }

    // 18: "NONE if there is no such club, or none is open"
    private static void giveUpOfNone() {
        for (int club : Scene.NO_CLUBS) {
            Twin.refused("giveUp(" + club + ")", Scene::settling, -1, x -> x.giveUp(club));
        }
        Twin.refused("giveUp(0), none open", Scene::settling, -1, x -> x.giveUp(0));
        Twin.refused("giveUp(1) again", SettlementEdgeTest::givenUp, -1, x -> x.giveUp(1));
        Twin.refused("giveUp(1), closed", SettlementEdgeTest::closed, -1, x -> x.giveUp(1));
    }

    // 18: "how many were not ticked": all, some, none
    private static void giveUpCountsWhatIsNotTicked() {
        Twin.Steps fresh = x -> {
            Scene.clubs(x);
            x.settle(1);
        };
        Twin.done("giveUp(1), none ticked", fresh, 2, x -> x.giveUp(1));
        Twin.done("giveUp(1), one ticked", Scene::settling, 1, x -> x.giveUp(1));
        Twin.done("giveUp(1), all ticked", SettlementEdgeTest::allTicked, 0, x -> x.giveUp(1));
        Twin.Steps empty = x -> {
            x.club();
            x.settle(0);
        };
        Twin.done("giveUp(0), no transfers", empty, 0, x -> x.giveUp(0));
    }

    // 18: "what is ticked stays so"
    private static void giveUpKeepsWhatIsTicked() {
        ExpenseClubs x = Due.clubOf(3);
        Due.even(x, 90, 7);
        x.settle(0);
        x.tick(0, 0);
        Due.same("giveUp(0)", x.giveUp(0), 1);
        Due.balancesAre(x, 0, 30, -30);
        Due.same("settle(0)", x.settle(0), 1);
        Due.same("giveUp(0)", x.giveUp(0), 1);
        Due.balancesAre(x, 0, 30, -30);
    }

    // 19: "false if there is no such club, none is open"
    private static void closeOfNone() {
        for (int club : Scene.NO_CLUBS) {
            Twin.no("close(" + club + ")", SettlementEdgeTest::allTicked, x -> x.close(club));
        }
        Twin.no("close(0), none open", SettlementEdgeTest::allTicked, x -> x.close(0));
        Twin.no("close(1) again", SettlementEdgeTest::closed, x -> x.close(1));
        Twin.no("close(1), given up", SettlementEdgeTest::givenUp, x -> x.close(1));
        Twin.Steps tickedAndGivenUp = x -> {
            allTicked(x);
            x.giveUp(1);
        };
        Twin.no("close(1), all ticked and given up", tickedAndGivenUp, x -> x.close(1));
    }

    // 19: "or not all are ticked"
    private static void closeNeedsAllTicked() {
        Twin.Steps fresh = x -> {
            Scene.clubs(x);
            x.settle(1);
        };
        Twin.no("close(1), none ticked", fresh, x -> x.close(1));
        Twin.no("close(1), the first ticked", Scene::settling, x -> x.close(1));
        Twin.Steps lastTicked = x -> {
            fresh.on(x);
            x.tick(1, 1);
        };
        Twin.no("close(1), the last ticked", lastTicked, x -> x.close(1));
        Twin.yes("close(1), all ticked", SettlementEdgeTest::allTicked, x -> x.close(1));
        Twin.yes("close(0), nothing to tick", x -> {
            x.club();
            x.settle(0);
        }, x -> x.close(0));
    }

    // 20: "NONE if there is none such"
    private static void countOfNone() {
        for (int club : Scene.NO_CLUBS) {
            for (int what = 0; what < 4; what++) {
                int each = what;
                Twin.refused("count(" + club + ", " + what + ")", Scene::settling, -1, x -> x.count(club, each));
            }
        }
    }

    // 20: "or for another what"
    private static void countOfAnotherWhat() {
        for (int what : NO_WHATS) {
            Twin.refused("count(0, " + what + ")", Scene::settling, -1, x -> x.count(0, what));
            Twin.refused("count(1, " + what + "), one open", Scene::settling, -1, x -> x.count(1, what));
        }
    }

    // 20: "(NONE for 1 and 2 if none is open)"
    private static void countWithoutASettlement() {
        Twin.refused("count(0, 0), none open", Scene::settling, 5, x -> x.count(0, 0));
        Twin.refused("count(0, 1), none open", Scene::settling, -1, x -> x.count(0, 1));
        Twin.refused("count(0, 2), none open", Scene::settling, -1, x -> x.count(0, 2));
        Twin.refused("count(0, 3), none open", Scene::settling, 1, x -> x.count(0, 3));
        for (int what = 1; what < 3; what++) {
            int each = what;
            Twin.refused("count(1, " + what + "), given up", SettlementEdgeTest::givenUp, -1, x -> x.count(1, each));
            Twin.refused("count(1, " + what + "), closed", SettlementEdgeTest::closed, -1, x -> x.count(1, each));
        }
    }

    // 20: "0: how many members, .. 1: how many groups .., 2: how many .. are not ticked"
    private static void countOfASettlement() {
        Twin.refused("count(1, 0)", Scene::settling, 3, x -> x.count(1, 0));
        Twin.refused("count(1, 1)", Scene::settling, 1, x -> x.count(1, 1));
        Twin.refused("count(1, 2), one ticked", Scene::settling, 1, x -> x.count(1, 2));
        Twin.refused("count(1, 2), all ticked", SettlementEdgeTest::allTicked, 0, x -> x.count(1, 2));
        Twin.refused("count(1, 1), all ticked", SettlementEdgeTest::allTicked, 1, x -> x.count(1, 1));
        Twin.refused("count(1, 3)", Scene::settling, 1, x -> x.count(1, 3));
    }

    // 21: "NONE if it is in none, or there is none such"
    private static void groupOfNone() {
        for (int club : Scene.NO_CLUBS) {
            Twin.refused("groupOf(" + club + ", 0)", Scene::settling, -1, x -> x.groupOf(club, 0));
        }
        for (int member : Scene.NO_MEMBERS) {
            Twin.refused("groupOf(1, " + member + ")", Scene::settling, -1, x -> x.groupOf(1, member));
        }
        for (int m = 0; m < 3; m++) {
            int each = m;
            Twin.refused("groupOf(0, " + m + "), none open", Scene::settling, -1, x -> x.groupOf(0, each));
            Twin.refused("groupOf(1, " + m + "), given up", SettlementEdgeTest::givenUp, -1, x -> x.groupOf(1, each));
            Twin.refused("groupOf(1, " + m + "), closed", SettlementEdgeTest::closed, -1, x -> x.groupOf(1, each));
            Twin.refused("groupOf(1, " + m + ")", Scene::settling, 0, x -> x.groupOf(1, each));
        }
        Twin.Steps newcomer = x -> {
            Scene.settling(x);
            x.member(1);
        };
        Twin.refused("groupOf(1, 3), who came after", newcomer, -1, x -> x.groupOf(1, 3));
    }

    // 21: the groups are those of the opening, whatever is ticked since
    private static void groupOfEach() {
        ExpenseClubs x = Due.balances(5, -5, 0, 6, -6);
        x.settle(0);
        Due.groupsAre(x, 0, 0, -1, 1, 1, -1, -1, -1, -1, -1, -1, -1, -1);
        x.tick(0, 0);
        Due.groupsAre(x, 0, 0, -1, 1, 1);
        x.tick(0, 1);
        Due.groupsAre(x, 0, 0, -1, 1, 1);
        x.close(0);
        Due.groupsAre(x, -1, -1, -1, -1, -1);
        Due.lend(x, 2, 3, 1);
        x.settle(0);
        Due.groupsAre(x, -1, -1, 0, 0, -1);
    }
}
