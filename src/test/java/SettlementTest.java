/** Promises 15 to 21: settle, transfer, tick, giveUp, close, count, groupOf. */
public final class SettlementTest {
    public static void main(String[] args) {
        settling();
        emptySettlement();
        mostGroups();
        leastGroupFirst();
        sixPairs();
        oneWhoLeft();
        transferDirections();
        transferExceptions();
        ticking();
        givingUp();
        closing();
        counts();
        groups();
        Due.end();
    }

    private static void settling() {
        ExpenseClubs x = Due.clubOf(3);
        x.club();
        Due.same("settle(2)", x.settle(2), -1);
        Due.same("settle(-1)", x.settle(-1), -1);
        Due.same("settle(4)", x.settle(4), -1);
        Due.even(x, 90, 7);
        Due.same("settle(0)", x.settle(0), 2);
        x.tick(0, 0);
        Due.same("settle(0) while it is open", x.settle(0), -1);
        Due.same("nothing happened", x.count(0, 2), 1);
        Due.same("settle of another club", x.settle(1), 0);
        x.giveUp(0);
        Due.same("settle(0) of what is left", x.settle(0), 1);
        Due.transfer(x, 0, 0, 2, 1, 30, 0);
    }

    private static void emptySettlement() {
        ExpenseClubs x = Due.clubOf(0);
        Due.same("settle(0)", x.settle(0), 0);
        Due.same("settle(0) again", x.settle(0), -1);
        Due.same("groups", x.count(0, 1), 0);
        Due.same("not ticked", x.count(0, 2), 0);
        Due.transferThrows(x, 0, 0, 0, Due.INDEX);
        Due.yes("close(0)", x.close(0));
        Due.same("settle(0)", x.settle(0), 0);
        Due.same("giveUp(0)", x.giveUp(0), 0);
    }

    private static void mostGroups() {
        // 0 with 1 and 2 is the lesser number, but leaves one group more only; pairs make three.
        ExpenseClubs x = Due.balances(5, -2, -3, 2, 3, -5);
        Due.same("settle(0)", x.settle(0), 3);
        Due.same("groups", x.count(0, 1), 3);
        Due.groupsAre(x, 0, 1, 2, 1, 2, 0, -1, -1, -1, -1, -1, -1);
        Due.transfer(x, 0, 0, 5, 0, 5, 0);
        Due.transfer(x, 0, 1, 1, 3, 2, 0);
        Due.transfer(x, 0, 2, 2, 4, 3, 0);
    }

    private static void leastGroupFirst() {
        // 0 with 1 and 2 (7) and 0 with 5 (33) are both in divisions with two groups.
        ExpenseClubs x = Due.balances(6, -4, -2, 3, 3, -6);
        Due.same("settle(0)", x.settle(0), 4);
        Due.groupsAre(x, 0, 0, 0, 1, 1, 1);
        ExpenseClubs y = Due.balances(4, -4, -4, 4, 0, 4, -4);
        Due.same("settle(0)", y.settle(0), 3);
        Due.groupsAre(y, 0, 0, 1, 1, -1, 2, 2);
        // The least number is not the fewest members: 0, 1, 2 is 7, and 0 with 3 is 9.
        ExpenseClubs z = Due.balances(3, -1, -2, -3, 3);
        Due.same("settle(0)", z.settle(0), 3);
        Due.groupsAre(z, 0, 0, 0, 1, 1);
    }

    private static void sixPairs() {
        ExpenseClubs x = Due.clubOf(12);
        for (int m = 0; m < 6; m++) {
            Due.lend(x, m, 11 - m, 7 * m + 1);
        }
        Due.same("settle(0)", x.settle(0), 6);
        Due.groupsAre(x, 0, 1, 2, 3, 4, 5, 5, 4, 3, 2, 1, 0);
        for (int m = 0; m < 6; m++) {
            Due.transfer(x, 0, m, 11 - m, m, 7 * m + 1, 0);
        }
    }

    private static void oneWhoLeft() {
        ExpenseClubs x = Due.clubOf(3);
        Due.lend(x, 0, 1, 8);
        Due.lend(x, 1, 0, 8);
        Due.yes("leave(0, 1)", x.leave(0, 1));
        x.strike(1);
        Due.same("settle(0)", x.settle(0), 1);
        Due.transfer(x, 0, 0, 1, 0, 8, 0);
        Due.yes("tick of one who left", x.tick(0, 0));
        Due.yes("close(0)", x.close(0));
        Due.balancesAre(x, 0, 0, 0);
    }

    private static void transferDirections() {
        ExpenseClubs x = Due.balances(-5, 0, 9, -1, -3);
        Due.same("settle(0)", x.settle(0), 3);
        Due.same("groups", x.count(0, 1), 1);
        Due.transfer(x, 0, 0, 0, 2, 5, 0);
        Due.transfer(x, 0, 1, 3, 2, 4, 0);
        Due.transfer(x, 0, 2, 4, 3, 3, 0);
        x.tick(0, 1);
        Due.transfer(x, 0, 0, 0, 2, 5, 0);
        Due.transfer(x, 0, 1, 3, 2, 4, 1);
    }

    private static void transferExceptions() {
        ExpenseClubs x = Due.clubOf(2);
        x.club();
        Due.lend(x, 0, 1, 5);
        Due.transferThrows(x, 0, 0, 0, Due.INDEX);
        x.settle(0);
        Due.transferThrows(x, 0, 0, 0, Due.NO_THROW);
        Due.transferThrows(x, 0, 0, 3, Due.NO_THROW);
        Due.transferThrows(x, 0, 0, 4, Due.ARGUMENT);
        Due.transferThrows(x, 0, 0, -1, Due.ARGUMENT);
        Due.transferThrows(x, 0, 1, 0, Due.INDEX);
        Due.transferThrows(x, 0, -1, 0, Due.INDEX);
        Due.transferThrows(x, 0, 12, 0, Due.INDEX);
        Due.transferThrows(x, 0, Integer.MAX_VALUE, 0, Due.INDEX);
        Due.transferThrows(x, 1, 0, 0, Due.INDEX);
        Due.transferThrows(x, 2, 0, 0, Due.INDEX);
        Due.transferThrows(x, -1, 0, 0, Due.INDEX);
        Due.transferThrows(x, 0, 1, 4, Due.INDEX);
        Due.transferThrows(x, 7, 0, 4, Due.INDEX);
        x.giveUp(0);
        Due.transferThrows(x, 0, 0, 0, Due.INDEX);
    }

    private static void ticking() {
        ExpenseClubs x = Due.clubOf(3);
        Due.even(x, 90, 7);
        Due.no("tick without a settlement", x.tick(0, 0));
        x.settle(0);
        Due.no("tick(0, -1)", x.tick(0, -1));
        Due.no("tick(0, 2)", x.tick(0, 2));
        Due.no("tick(0, 12)", x.tick(0, 12));
        Due.no("tick(1, 0)", x.tick(1, 0));
        Due.no("tick(-1, 0)", x.tick(-1, 0));
        Due.yes("tick(0, 1)", x.tick(0, 1));
        Due.no("tick(0, 1) again", x.tick(0, 1));
        Due.balancesAre(x, 60, -60, 0);
        Due.same("what 3", x.transfer(0, 1, 3), 1);
        Due.same("what 3", x.transfer(0, 0, 3), 0);
        Due.yes("tick(0, 0)", x.tick(0, 0));
        Due.balancesAre(x, 0, 0, 0);
        x.close(0);
        Due.no("tick when it is closed", x.tick(0, 0));
        Due.even(x, 90, 7);
        Due.same("settle(0)", x.settle(0), 2);
        Due.same("a new transfer is not ticked", x.transfer(0, 0, 3), 0);
        Due.yes("tick(0, 0)", x.tick(0, 0));
    }

    private static void givingUp() {
        ExpenseClubs x = Due.clubOf(3);
        Due.even(x, 90, 7);
        Due.same("giveUp(0), none open", x.giveUp(0), -1);
        Due.same("giveUp(1)", x.giveUp(1), -1);
        Due.same("giveUp(-1)", x.giveUp(-1), -1);
        x.settle(0);
        x.tick(0, 1);
        Due.same("giveUp(0)", x.giveUp(0), 1);
        Due.same("giveUp(0) again", x.giveUp(0), -1);
        Due.no("close(0)", x.close(0));
        Due.balancesAre(x, 60, -60, 0);
        x.settle(0);
        x.tick(0, 0);
        Due.same("giveUp(0) with all ticked", x.giveUp(0), 0);
        Due.balancesAre(x, 0, 0, 0);
    }

    private static void closing() {
        ExpenseClubs x = Due.clubOf(3);
        Due.even(x, 90, 7);
        Due.no("close(0), none open", x.close(0));
        Due.no("close(1)", x.close(1));
        Due.no("close(-1)", x.close(-1));
        x.settle(0);
        Due.no("close(0), none ticked", x.close(0));
        x.tick(0, 0);
        Due.no("close(0), one ticked", x.close(0));
        Due.same("it is still open", x.count(0, 2), 1);
        x.tick(0, 1);
        Due.yes("close(0)", x.close(0));
        Due.no("close(0) again", x.close(0));
        Due.same("giveUp(0)", x.giveUp(0), -1);
        Due.same("count(0, 2)", x.count(0, 2), -1);
        Due.same("settle(0)", x.settle(0), 0);
    }

    private static void counts() {
        ExpenseClubs x = Due.balances(1, -1, 2, -2);
        Due.same("members", x.count(0, 0), 12);
        Due.same("groups, none open", x.count(0, 1), -1);
        Due.same("not ticked, none open", x.count(0, 2), -1);
        Due.same("mark", x.count(0, 3), 0);
        Due.same("what 4", x.count(0, 4), -1);
        Due.same("what -1", x.count(0, -1), -1);
        for (int what = 0; what < 4; what++) {
            Due.same("count of club 1", x.count(1, what), -1);
            Due.same("count of club -1", x.count(-1, what), -1);
        }
        x.settle(0);
        Due.same("groups", x.count(0, 1), 2);
        Due.same("not ticked", x.count(0, 2), 2);
        x.tick(0, 1);
        Due.same("groups stay", x.count(0, 1), 2);
        Due.same("not ticked", x.count(0, 2), 1);
        x.giveUp(0);
        Due.same("groups, given up", x.count(0, 1), -1);
        x.leave(0, 5);
        Due.same("members with those who left", x.count(0, 0), 12);
    }

    private static void groups() {
        ExpenseClubs x = Due.clubOf(5);
        Due.lend(x, 1, 4, 3);
        Due.lend(x, 2, 3, 6);
        Due.groupsAre(x, -1, -1, -1, -1, -1);
        x.settle(0);
        Due.groupsAre(x, -1, 0, 1, 1, 0, -1);
        x.tick(0, 0);
        Due.groupsAre(x, -1, 0, 1, 1, 0);
        Due.same("groupOf(0, -1)", x.groupOf(0, -1), -1);
        Due.same("groupOf(0, 12)", x.groupOf(0, 12), -1);
        Due.same("groupOf(1, 1)", x.groupOf(1, 1), -1);
        Due.same("groupOf(-1, 1)", x.groupOf(-1, 1), -1);
        x.member(0);
        Due.same("groupOf a new member", x.groupOf(0, 5), -1);
        x.giveUp(0);
        Due.groupsAre(x, -1, -1, -1, -1, -1);
        x.settle(0);
        Due.groupsAre(x, -1, -1, 0, 0, -1);
    }
}
