/** The boundaries of promise 9: each refusal of post, their order, and that nothing happens. */
public final class PostEdgeTest {
    private static final int OPEN = 1 << 2;
    private static final int FULL = 1 << 3;
    private static final int LEFT = 1 << 4;
    private static final int UNPAID = 1 << 5;
    private static final int WEIGHTLESS = 1 << 6;
    private static final int UNEVEN = 1 << 7;

    public static void main(String[] args) {
        noDraft();
        noDraftGoesFirst();
        settlementOpen();
        sixtyFourBills();
        struckBillsCount();
        payerLeft();
        weightLeft();
        anyOneLeft();
        lineLeft();
        leftWithNothing();
        payersInAll();
        noWeights();
        weightsInAll();
        linesInAll();
        waysWithoutASum();
        orderOfRefusals();
        numbersOverAllClubs();
        draftIsGone();
        Due.end();
    }

    private static Twin.Steps draft(int way) {
        return x -> Scene.draft(x, way);
    }

    // 9: "-1 if there is no draft"
    private static void noDraft() {
        Twin.refused("post() without a club", x -> { }, -1, x -> x.post());
        Twin.refused("post() before a draft", Scene::settling, -1, x -> x.post());
        Twin.Steps posted = x -> {
            Scene.draft(x, 1);
            x.post();
        };
        Twin.refused("post() after post()", posted, -1, x -> x.post());
        Twin.Steps refusedBill = x -> {
            Scene.settling(x);
            x.bill(0, 6, 1, 1);
        };
        Twin.refused("post() after a bill refused", refusedBill, -1, x -> x.post());
    }

    // 9: "the first of: -1", before -2 and -3
    private static void noDraftGoesFirst() {
        Twin.Steps open = x -> {
            Scene.settling(x);
            x.settle(0);
        };
        Twin.refused("post() without a draft, settlements open", open, -1, x -> x.post());
        Twin.refused("post() without a draft, 64 bills", x -> Scene.bills(x, 64), -1, x -> x.post());
    }

    // 9: "-2 if a settlement of the club is open"
    private static void settlementOpen() {
        for (int way = 1; way <= 4; way++) {
            int each = way;
            Twin.Steps open = x -> {
                Scene.draft(x, each);
                x.settle(0);
            };
            Twin.refused("post() by way " + way, open, -2, x -> x.post());
            Twin.done("post() when it is given up", open, 3, x -> x.giveUp(0) < 0 ? -9 : x.post());
            Twin.done("post() while another club's is open", draft(way), 3, x -> x.post());
        }
        ExpenseClubs x = Due.clubOf(1);
        Scene.evenDraft(x, 0, 5, 1);
        Due.same("settle(0)", x.settle(0), 0);
        Due.same("post(), an empty settlement being open", x.post(), -2);
        Due.yes("close(0)", x.close(0));
        Due.same("post() when it is closed", x.post(), 0);
    }

    // 9: "-3 if there were 64 bills"
    private static void sixtyFourBills() {
        Twin.done("post() after 63", x -> billsAndDraft(x, 63), 63, x -> x.post());
        Twin.refused("post() after 64", x -> billsAndDraft(x, 64), -3, x -> x.post());
        Twin.refused("post() twice after 64", x -> billsAndDraft(x, 64), -6, x -> x.post() + x.post());
    }

    private static void billsAndDraft(ExpenseClubs x, int bills) {
        Scene.bills(x, bills);
        Scene.evenDraft(x, 0, 1, 2);
    }

    // 9: "there were 64", struck ones too, and those of all clubs
    private static void struckBillsCount() {
        Twin.Steps struck = x -> {
            billsAndDraft(x, 64);
            x.strike(0);
            x.strike(63);
        };
        Twin.refused("post() after 64, two of them struck", struck, -3, x -> x.post());
        Twin.Steps otherClub = x -> {
            Scene.bills(x, 64);
            x.club();
            x.member(1);
            Scene.evenDraft(x, 1, 1, 1);
        };
        Twin.refused("post() of a club without bills after 64", otherClub, -3, x -> x.post());
    }

    // 9: "-4 if one who pays cents .. left since"
    private static void payerLeft() {
        Twin.Steps aCent = x -> {
            Scene.draft(x, 1);
            x.payer(1, 99);
            x.payer(3, 1);
            x.leave(0, 3);
        };
        Twin.refused("post(), one who pays a cent left", aCent, -4, x -> x.post());
    }

    // 9: "or has a weight above 0 left since"
    private static void weightLeft() {
        for (int way = 1; way <= 4; way++) {
            int each = way;
            Twin.Steps left = x -> {
                Scene.draft(x, each);
                x.weight(1, each == 3 ? 39 : each == 4 ? 3332 : 1);
                x.weight(3, 1);
                x.leave(0, 3);
            };
            Twin.refused("post() by way " + way + ", one with a weight of 1 left", left, -4, x -> x.post());
        }
    }

    // 9: "-4", whichever of the members 0 .. 11 it is
    private static void anyOneLeft() {
        for (int gone = 0; gone < 12; gone++) {
            int stays = (gone + 1) % 12;
            Due.same("post(), payer " + gone + " left", postWithout(gone, gone, stays), -4);
            Due.same("post(), sharer " + gone + " left", postWithout(gone, stays, gone), -4);
            Due.same("post(), member " + gone + " left, not in it", postWithout(gone, stays, stays), 0);
        }
    }

    /** What post answers for a draft of a payer and a sharer among 12, when one left since. */
    private static int postWithout(int gone, int payer, int sharer) {
        ExpenseClubs x = Due.clubOf(12);
        x.bill(0, 1, 5, Due.PAR);
        x.payer(payer, 5);
        x.weight(sharer, 1);
        Due.yes("leave", x.leave(0, gone));
        return x.post();
    }

    // 9: the weight of one in a line's set is above 0
    private static void lineLeft() {
        Twin.Steps left = x -> {
            Scene.lines(x);
            x.leave(0, 3);
        };
        Twin.refused("post(), one of a line left", left, -4, x -> x.post());
    }

    // 9: who pays 0 cents and has a weight of 0 may leave
    private static void leftWithNothing() {
        Twin.Steps nothing = x -> {
            Scene.draft(x, 2);
            x.payer(3, 0);
            x.weight(3, 0);
            x.leave(0, 3);
        };
        Twin.done("post(), one with 0 and 0 left", nothing, 3, x -> x.post());
        Twin.Steps takenBack = x -> {
            Scene.draft(x, 2);
            x.payer(3, 5);
            x.payer(3, 0);
            x.weight(3, 7);
            x.weight(3, 0);
            x.leave(0, 3);
        };
        Twin.done("post(), one with all taken back left", takenBack, 3, x -> x.post());
    }

    // 9: "-5 if the payers' cents are not CENTS in all"
    private static void payersInAll() {
        int[] wrong = {0, 99, 101, Scene.MOST_CENTS};
        for (int cents : wrong) {
            Twin.Steps steps = x -> {
                Scene.draft(x, 1);
                x.payer(1, cents);
            };
            Twin.refused("post(), payers with 1 and " + cents + " of 101", steps, -5, x -> x.post());
        }
        ExpenseClubs x = Due.clubOf(12);
        x.bill(0, 1, Scene.MOST_CENTS, Due.PAR);
        x.weight(0, 1);
        for (int m = 0; m < 12; m++) {
            x.payer(m, Scene.MOST_CENTS);
        }
        Due.same("post(), 12 payers of the most cents", x.post(), -5);
        for (int m = 1; m < 12; m++) {
            x.payer(m, 0);
        }
        Due.same("post(), one payer of the most cents", x.post(), 0);
    }

    // 9: "-6 if all weights are 0"
    private static void noWeights() {
        for (int way = 1; way <= 5; way++) {
            ExpenseClubs x = Due.clubOf(2);
            x.bill(0, way, 100, Due.PAR);
            x.payer(0, 100);
            Due.same("post() by way " + way + ", no weights", x.post(), -6);
            x.weight(0, 1);
            x.weight(0, 0);
            x.weight(1, 0);
            Due.same("post() by way " + way + ", weights of 0", x.post(), -6);
        }
        for (int way = 1; way <= 4; way++) {
            int each = way;
            Twin.Steps none = x -> {
                Scene.draft(x, each);
                for (int m = 0; m < 3; m++) {
                    x.weight(m, 0);
                }
            };
            Twin.refused("post() by way " + way + ", weights of 0", none, -6, x -> x.post());
        }
    }

    // 9: "-7 if they must be CENTS, or 10000, .. in all and are not"
    private static void weightsInAll() {
        int[][] last = {{}, {}, {}, {59, 61, 0, Scene.MOST_CENTS}, {6665, 6667, 0, 10000}};
        for (int way = 3; way <= 4; way++) {
            for (int weight : last[way]) {
                int each = way;
                Twin.Steps wrong = x -> {
                    Scene.draft(x, each);
                    x.weight(2, weight);
                };
                Twin.refused("post() by way " + way + ", the last weight " + weight, wrong, -7, x -> x.post());
            }
            Twin.done("post() by way " + way, draft(way), 3, x -> x.post());
        }
        ExpenseClubs x = Due.clubOf(12);
        x.bill(0, 3, Scene.MOST_CENTS, Due.PAR);
        x.payer(0, Scene.MOST_CENTS);
        for (int m = 0; m < 12; m++) {
            x.weight(m, Scene.MOST_CENTS);
        }
        Due.same("post(), 12 weights of the most cents", x.post(), -7);
        x.bill(0, 4, 10000, Due.PAR);
        x.payer(0, 10000);
        x.weight(0, 10000);
        Due.same("post(), one weight of 10000", x.post(), 0);
        x.bill(0, 3, 10, Due.PAR);
        x.payer(0, 10);
        x.weight(0, 10000);
        Due.same("post(), exact and 10000 in all", x.post(), -7);
    }

    // 9: "or the lines CENTS, in all and are not"
    private static void linesInAll() {
        Twin.done("post(), lines of 101", Scene::lines, 3, x -> x.post());
        Twin.Steps above = x -> {
            Scene.lines(x);
            x.line(1, 1);
        };
        Twin.refused("post(), lines of 102 of 101", above, -7, x -> x.post());
        Twin.Steps below = x -> {
            Scene.settling(x);
            x.bill(0, 5, 101, 1500000);
            x.payer(0, 101);
            x.line(50, 7);
            x.line(50, 12);
        };
        Twin.refused("post(), lines of 100 of 101", below, -7, x -> x.post());
        Twin.done("post(), a line more", below, 3, x -> x.line(1, 1) ? x.post() : -9);
        ExpenseClubs x = Due.clubOf(1);
        x.bill(0, 5, Scene.MOST_CENTS, Due.PAR);
        x.payer(0, Scene.MOST_CENTS);
        for (int k = 0; k < 16; k++) {
            x.line(Scene.MOST_CENTS, 1);
        }
        Due.same("post(), 16 lines of the most cents", x.post(), -7);
    }

    // 9: EVEN and PARTS must not be any number in all
    private static void waysWithoutASum() {
        ExpenseClubs x = Due.clubOf(12);
        int bill = 0;
        for (int n : new int[] {1, 2, 1000}) {
            x.bill(0, 2, 7, Due.PAR);
            x.payer(0, 7);
            x.weight(5, n);
            Due.same("post(), parts of " + n, x.post(), bill);
            bill++;
        }
        x.bill(0, 2, 7, Due.PAR);
        x.payer(0, 7);
        for (int m = 0; m < 12; m++) {
            x.weight(m, 1000);
        }
        Due.same("post(), parts of 12000", x.post(), bill);
        Due.same("post() of an even bill", Due.even(x, 7, 4095), bill + 1);
    }

    // 9: "it is the first of", for every set of reasons there can be
    private static void orderOfRefusals() {
        for (int faults = 0; faults <= (OPEN | FULL | LEFT | UNPAID | WEIGHTLESS | UNEVEN); faults += OPEN) {
            for (int way = 1; way <= 5; way++) {
                boolean hasSum = way >= 3;
                boolean uneven = (faults & UNEVEN) != 0;
                boolean weightless = (faults & WEIGHTLESS) != 0;
                // Without weights a way with a sum lacks it, and one without a sum never does.
                if (uneven ? hasSum : !(weightless && hasSum)) {
                    refusedInOrder(faults, way);
                }
            }
        }
    }

    private static void refusedInOrder(int faults, int way) {
        int first = faults == 0 ? 0 : -Integer.numberOfTrailingZeros(faults);
        String call = "post() by way " + way + ", faults " + Integer.toBinaryString(faults >> 2);
        Twin.Steps steps = x -> faulty(x, way, faults);
        if (first == 0) {
            Twin.done(call, steps, 0, x -> x.post());
        } else {
            Twin.refused(call, steps, first, x -> x.post());
        }
    }

    /** Club 0 with members 0 to 2 and a draft of 100 cents by a way, with these faults and no other. */
    private static void faulty(ExpenseClubs x, int way, int faults) {
        x.club();
        Scene.members(x, 0, 3);
        for (int b = 0; b < ((faults & FULL) != 0 ? 64 : 0); b++) {
            Scene.evenDraft(x, 0, 1, 1);
            x.post();
        }
        x.bill(0, way, 100, Due.PAR);
        x.payer(0, (faults & UNPAID) != 0 ? 98 : 99);
        x.payer((faults & LEFT) != 0 ? 2 : 1, 1);
        if ((faults & WEIGHTLESS) == 0) {
            weigh(x, way, (faults & UNEVEN) != 0);
        }
        if ((faults & LEFT) != 0) {
            x.leave(0, 2);
        }
        if ((faults & OPEN) != 0) {
            x.settle(0);
        }
    }

    private static void weigh(ExpenseClubs x, int way, boolean uneven) {
        if (way == 5) {
            x.line(uneven ? 101 : 100, 3);
            return;
        }
        int[] most = {0, 1, 1000, 100, 10000};
        x.weight(0, uneven ? most[way] - 1 : most[way]);
    }

    // 9: "the bill's number, 0, 1, .. over all clubs"
    private static void numbersOverAllClubs() {
        ExpenseClubs x = new ExpenseClubs();
        for (int c = 0; c < 4; c++) {
            x.club();
            x.member(c);
        }
        for (int b = 0; b < 8; b++) {
            int club = 3 - b % 4;
            Scene.evenDraft(x, club, b + 1, 1);
            Due.same("post()", x.post(), b);
            Due.same("total(" + b + ")", x.total(b), b + 1);
            x.bill(club, 1, 1, 1);
            Due.same("a post() refused takes no number", x.post(), -5);
        }
    }

    // 9: "The draft is posted, and there is none then"
    private static void draftIsGone() {
        ExpenseClubs x = Due.clubOf(2);
        Scene.evenDraft(x, 0, 10, 2);
        Due.same("post()", x.post(), 0);
        Due.same("post() again", x.post(), -1);
        Due.no("payer", x.payer(0, 10));
        Due.no("weight", x.weight(1, 1));
        Due.no("bill refused", x.bill(0, 1, 0, 1));
        Due.same("post() still", x.post(), -1);
        Due.balancesAre(x, 10, -10);
    }
}
