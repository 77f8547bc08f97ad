/** Objects in the middle of things, for calls that are to be refused there. */
final class Scene {
    static final int MOST_CENTS = 100000000;
    static final int MOST_RATE = 1000000000;
    static final int MIN = Integer.MIN_VALUE;
    static final int MAX = Integer.MAX_VALUE;

    /** No clubs of an object that has clubs 0 and 1. */
    static final int[] NO_CLUBS = {-1, 2, 3, 4, 5, 32, -32, MIN, MAX};
    /** No members of a club that has members 0 to 4. */
    static final int[] NO_MEMBERS = {-1, 5, 11, 12, 13, 31, 32, 33, 64, -32, MIN, MAX};
    /** No bills of an object that has bills 0 to 2. */
    static final int[] NO_BILLS = {-1, 3, 4, 63, 64, 65, -64, MIN, MAX};

    private Scene() {
    }

    static void members(ExpenseClubs x, int club, int members) {
        for (int m = 0; m < members; m++) {
            x.member(club);
        }
    }

    /** A draft for the members of a set, evenly, at par, that member 0 pays. */
    static void evenDraft(ExpenseClubs x, int club, int cents, int set) {
        x.bill(club, 1, cents, Due.PAR);
        x.payer(0, cents);
        for (int m = 0; m < 12; m++) {
            if ((set >> m & 1) != 0) {
                x.weight(m, 1);
            }
        }
    }

    /**
     * Club 0 with members 0 to 4, of whom 4 left, bill 0 and the struck bill 2; club 1 with members
     * 0 to 2 and bill 1.
     */
    static void clubs(ExpenseClubs x) {
        x.club();
        x.club();
        members(x, 0, 5);
        members(x, 1, 3);
        x.leave(0, 4);
        evenDraft(x, 0, 100, 7);
        x.post();
        evenDraft(x, 1, 100, 7);
        x.post();
        evenDraft(x, 0, 50, 6);
        x.post();
        x.strike(2);
    }

    /** The same with an open settlement of club 1, whose transfers are 0, which is ticked, and 1. */
    static void settling(ExpenseClubs x) {
        clubs(x);
        x.settle(1);
        x.tick(1, 0);
    }

    /** The same with a draft of club 0 by a way of 1 to 4 that can be posted. */
    static void draft(ExpenseClubs x, int way) {
        settling(x);
        x.bill(0, way, 101, 1500000);
        x.payer(0, 1);
        x.payer(1, 100);
        int[][] weights = {{}, {1, 1, 1}, {3, 4, 1000}, {1, 40, 60}, {1, 3333, 6666}};
        for (int m = 0; m < 3; m++) {
            x.weight(m, weights[way][m]);
        }
    }

    /** The same with a draft by lines. */
    static void lines(ExpenseClubs x) {
        settling(x);
        x.bill(0, 5, 101, 1500000);
        x.payer(0, 1);
        x.payer(1, 100);
        x.line(50, 7);
        x.line(51, 12);
    }

    /** Club 0 with 2 members and so many bills of a cent. */
    static void bills(ExpenseClubs x, int bills) {
        x.club();
        members(x, 0, 2);
        for (int b = 0; b < bills; b++) {
            evenDraft(x, 0, 1, 2);
            x.post();
        }
    }
}
