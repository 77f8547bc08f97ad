/** The boundaries of promises 5 to 8, each at its edge and just beyond it. */
public final class DraftEdgeTest {
    private static final int[] MOST_WEIGHT = {0, 1, 1000, Scene.MOST_CENTS, 10000};

    public static void main(String[] args) {
        billOfNoClub();
        billWays();
        billCents();
        billRates();
        billWithoutPayers();
        billWithoutWeights();
        billWithoutLines();
        billInPlaceOfOneByAnotherWay();
        billOfAnotherClub();
        billWhileASettlementIsOpen();
        payerWithoutDraft();
        payerOfNoMember();
        payerWhoLeft();
        payerCents();
        payerInPlaceOfWhatItPaid();
        weightWithoutDraft();
        weightByLines();
        weightOfNoMember();
        weightOfOneWhoLeft();
        weightThatCantBe();
        weightInPlaceOfAnother();
        lineWithoutDraftByLines();
        lineCents();
        lineOfNoMembers();
        lineWithNoMember();
        lineWithOneWhoLeft();
        lineSixteen();
        Due.end();
    }

    private static Twin.Steps draft(int way) {
        return x -> Scene.draft(x, way);
    }

    private static String told(String call, int a, int b) {
        return call + "(" + a + ", " + b + ")";
    }

    // 5: "false, and nothing happens, if there is no such club"
    private static void billOfNoClub() {
        for (int club : Scene.NO_CLUBS) {
            Twin.no("bill(" + club + ", ..) with a draft", draft(2), x -> x.bill(club, 1, 1, 1));
            Twin.no("bill(" + club + ", ..) without", Scene::clubs, x -> x.bill(club, 1, 1, 1));
        }
        Twin.yes("bill(1, ..)", draft(2), x -> x.bill(1, 1, 1, 1));
        Twin.Steps four = x -> {
            Scene.clubs(x);
            x.club();
            x.club();
        };
        Twin.yes("bill(3, ..) of 4 clubs", four, x -> x.bill(3, 1, 1, 1));
        Twin.no("bill(4, ..) of 4 clubs", four, x -> x.bill(4, 1, 1, 1));
    }

    // 5: "with a way 1 .. 5"
    private static void billWays() {
        for (int way : new int[] {0, 6, -1, 7, Scene.MIN, Scene.MAX}) {
            Twin.no("a bill by way " + way, draft(3), x -> x.bill(0, way, 7, 7));
            Twin.no("a bill by way " + way, Scene::lines, x -> x.bill(0, way, 7, 7));
        }
        for (int way = 1; way <= 5; way++) {
            int each = way;
            Twin.yes("a bill by way " + way, draft(3), x -> x.bill(0, each, 7, 7));
        }
    }

    // Terms: "CENTS 1 .. 100000000"
    private static void billCents() {
        for (int cents : new int[] {0, -1, Scene.MOST_CENTS + 1, Scene.MIN, Scene.MAX}) {
            Twin.no("a bill of " + cents, draft(4), x -> x.bill(0, 1, cents, 7));
        }
        for (int cents : new int[] {1, 2, Scene.MOST_CENTS - 1, Scene.MOST_CENTS}) {
            Twin.yes("a bill of " + cents, draft(4), x -> x.bill(0, 1, cents, 7));
        }
    }

    // Terms: "a RATE 1 .. 1000000000"
    private static void billRates() {
        for (int rate : new int[] {0, -1, Scene.MOST_RATE + 1, Scene.MIN, Scene.MAX}) {
            Twin.no("a bill at rate " + rate, draft(1), x -> x.bill(0, 1, 7, rate));
        }
        for (int rate : new int[] {1, 2, Scene.MOST_RATE - 1, Scene.MOST_RATE}) {
            Twin.yes("a bill at rate " + rate, draft(1), x -> x.bill(0, 1, 7, rate));
        }
    }

    // 5: "in place of another one, .. without payers"
    private static void billWithoutPayers() {
        ExpenseClubs x = Due.clubOf(12);
        x.bill(0, 1, 12, Due.PAR);
        for (int m = 0; m < 12; m++) {
            x.payer(m, 1);
        }
        x.bill(0, 1, 12, Due.PAR);
        x.weight(3, 1);
        Due.same("post() without payers", x.post(), -5);
        x.payer(11, 12);
        Due.same("post()", x.post(), 0);
        Due.paid(x, 0, 0, 0, 0, 0, 0, 0, 0, 0, 0, 0, 0, 12);
    }

    // 5: "without .. weights"
    private static void billWithoutWeights() {
        ExpenseClubs x = Due.clubOf(12);
        x.bill(0, 2, 12, Due.PAR);
        for (int m = 0; m < 12; m++) {
            x.weight(m, 5);
        }
        x.bill(0, 2, 12, Due.PAR);
        x.payer(0, 12);
        Due.same("post() without weights", x.post(), -6);
        x.weight(11, 1000);
        Due.same("post()", x.post(), 0);
        Due.shares(x, 0, 0, 0, 0, 0, 0, 0, 0, 0, 0, 0, 0, 12);
    }

    // 5: "without .. lines"
    private static void billWithoutLines() {
        ExpenseClubs x = Due.clubOf(2);
        x.bill(0, 5, 16, Due.PAR);
        for (int k = 0; k < 16; k++) {
            x.line(1, 1);
        }
        x.bill(0, 5, 16, Due.PAR);
        x.payer(0, 16);
        Due.same("post() without lines", x.post(), -6);
        for (int k = 0; k < 16; k++) {
            Due.yes("line " + k + " of the new draft", x.line(1, 2));
        }
        Due.no("line 16 of the new draft", x.line(1, 2));
        Due.same("post()", x.post(), 0);
        Due.shares(x, 0, 0, 16);
    }

    private static void billInPlaceOfOneByAnotherWay() {
        ExpenseClubs x = Due.clubOf(2);
        x.bill(0, 5, 10, Due.PAR);
        x.payer(0, 10);
        x.line(10, 1);
        x.bill(0, 2, 10, Due.PAR);
        x.payer(0, 10);
        Due.same("post() of parts after lines", x.post(), -6);
        x.weight(1, 3);
        x.bill(0, 5, 10, Due.PAR);
        x.payer(0, 10);
        Due.same("post() of lines after parts", x.post(), -6);
        x.line(10, 1);
        Due.same("post()", x.post(), 0);
        Due.shares(x, 0, 10, 0);
    }

    // 6: "A member of the draft's club"
    private static void billOfAnotherClub() {
        ExpenseClubs x = Due.clubOf(1);
        x.club();
        Scene.members(x, 1, 2);
        x.bill(0, 1, 10, Due.PAR);
        Due.no("payer of the other club", x.payer(1, 10));
        Due.no("weight of the other club", x.weight(1, 1));
        x.bill(1, 1, 10, Due.PAR);
        Due.yes("payer of the draft's club", x.payer(1, 10));
        Due.yes("weight of the draft's club", x.weight(1, 1));
        x.bill(0, 5, 10, Due.PAR);
        Due.no("line of the other club", x.line(10, 2));
        x.bill(1, 5, 10, Due.PAR);
        Due.yes("line of the draft's club", x.line(10, 2));
    }

    // A settlement stops what 4, 9, 10 and 15 name, and not the draft.
    private static void billWhileASettlementIsOpen() {
        ExpenseClubs x = Due.clubOf(2);
        Due.lend(x, 0, 1, 3);
        x.settle(0);
        Due.yes("bill", x.bill(0, 1, 10, Due.PAR));
        Due.yes("payer", x.payer(0, 10));
        Due.yes("weight", x.weight(1, 1));
        Due.yes("bill by lines", x.bill(0, 5, 10, Due.PAR));
        Due.yes("line", x.line(10, 3));
        Due.yes("payer", x.payer(1, 10));
        x.giveUp(0);
        Due.same("post()", x.post(), 1);
        Due.shares(x, 1, 5, 5);
    }

    // 6: "false if there is no draft"
    private static void payerWithoutDraft() {
        Twin.no("payer(0, 1) before a draft", Scene::settling, x -> x.payer(0, 1));
        Twin.no("payer(0, 0) before a draft", Scene::settling, x -> x.payer(0, 0));
        Twin.Steps posted = x -> {
            Scene.draft(x, 1);
            x.post();
        };
        Twin.no("payer(0, 1) after post()", posted, x -> x.payer(0, 1));
    }

    // 6: "no such member"
    private static void payerOfNoMember() {
        for (int member : Scene.NO_MEMBERS) {
            Twin.no(told("payer", member, 1), draft(1), x -> x.payer(member, 1));
            Twin.no(told("payer", member, 0), draft(1), x -> x.payer(member, 0));
        }
        Twin.yes("payer(3, 1)", draft(1), x -> x.payer(3, 1));
        ExpenseClubs x = Due.clubOf(11);
        x.bill(0, 1, 1, 1);
        Due.no("payer(11, 1) of 11", x.payer(11, 1));
        x.member(0);
        Due.yes("payer(11, 1) who came after the draft", x.payer(11, 1));
        Due.no("payer(12, 1) of 12", x.payer(12, 1));
    }

    // 6: "it left"
    private static void payerWhoLeft() {
        Twin.no("payer(4, 1), who left", draft(1), x -> x.payer(4, 1));
        Twin.no("payer(4, 0), who left", draft(1), x -> x.payer(4, 0));
        Twin.Steps paidAndLeft = x -> {
            Scene.draft(x, 1);
            x.payer(3, 1);
            x.leave(0, 3);
        };
        Twin.no("payer(3, 0), who paid and left", paidAndLeft, x -> x.payer(3, 0));
    }

    // 6: "or cents are not 0 .. 100000000"
    private static void payerCents() {
        for (int cents : new int[] {-1, Scene.MOST_CENTS + 1, -100, Scene.MIN, Scene.MAX}) {
            Twin.no(told("payer", 0, cents), draft(2), x -> x.payer(0, cents));
        }
        for (int cents : new int[] {0, 2, Scene.MOST_CENTS - 1, Scene.MOST_CENTS}) {
            Twin.yes(told("payer", 0, cents), draft(2), x -> x.payer(0, cents));
        }
        Twin.refused("payer(0, 1) as it is", draft(2), 1, x -> x.payer(0, 1) ? 1 : 0);
    }

    // 6: "in place of what it paid"
    private static void payerInPlaceOfWhatItPaid() {
        ExpenseClubs x = Due.clubOf(2);
        Scene.evenDraft(x, 0, 100, 3);
        Due.yes("payer(0, 99)", x.payer(0, 99));
        Due.yes("payer(1, 1)", x.payer(1, 1));
        Due.same("post()", x.post(), 0);
        Due.paid(x, 0, 99, 1);
        Scene.evenDraft(x, 0, 100, 3);
        Due.yes("payer(0, 0)", x.payer(0, 0));
        Due.same("post()", x.post(), -5);
        Due.yes("payer(1, 100)", x.payer(1, 100));
        Due.same("post()", x.post(), 1);
        Due.paid(x, 1, 0, 100);
    }

    // 7: "false if there is no draft"
    private static void weightWithoutDraft() {
        Twin.no("weight(0, 1) before a draft", Scene::settling, x -> x.weight(0, 1));
        Twin.no("weight(0, 0) before a draft", Scene::settling, x -> x.weight(0, 0));
        Twin.Steps posted = x -> {
            Scene.draft(x, 2);
            x.post();
        };
        Twin.no("weight(0, 1) after post()", posted, x -> x.weight(0, 1));
    }

    // 7: "it is by LINES"
    private static void weightByLines() {
        for (int n : new int[] {0, 1, -1, 27720, Scene.MIN, Scene.MAX}) {
            Twin.no(told("weight", 0, n) + " by lines", Scene::lines, x -> x.weight(0, n));
        }
    }

    // 7: "there is no such member"
    private static void weightOfNoMember() {
        for (int way = 1; way <= 4; way++) {
            for (int member : Scene.NO_MEMBERS) {
                Twin.no(told("weight", member, 1), draft(way), x -> x.weight(member, 1));
            }
            Twin.yes("weight(3, 1)", draft(way), x -> x.weight(3, 1));
        }
        ExpenseClubs x = Due.clubOf(11);
        x.bill(0, 1, 1, 1);
        Due.no("weight(11, 1) of 11", x.weight(11, 1));
        x.member(0);
        Due.yes("weight(11, 1) who came after the draft", x.weight(11, 1));
        Due.no("weight(12, 1) of 12", x.weight(12, 1));
    }

    // 7: "it left"
    private static void weightOfOneWhoLeft() {
        Twin.no("weight(4, 1), who left", draft(2), x -> x.weight(4, 1));
        Twin.no("weight(4, 0), who left", draft(2), x -> x.weight(4, 0));
        Twin.Steps weighsAndLeft = x -> {
            Scene.draft(x, 2);
            x.weight(3, 1);
            x.leave(0, 3);
        };
        Twin.no("weight(3, 0), who left with a weight", weighsAndLeft, x -> x.weight(3, 0));
    }

    // 7: "EVEN: 0 or 1, PARTS: 0 .. 1000, EXACT: cents 0 .. 100000000, PERCENT: 0 .. 10000"
    private static void weightThatCantBe() {
        for (int way = 1; way <= 4; way++) {
            int most = MOST_WEIGHT[way];
            for (int n : new int[] {-1, most + 1, Scene.MIN, Scene.MAX}) {
                Twin.no(told("weight", 0, n) + " by way " + way, draft(way), x -> x.weight(0, n));
            }
            Twin.yes("weight(3, " + most + ") by way " + way, draft(way), x -> x.weight(3, most));
            Twin.yes("weight(1, 0) by way " + way, draft(way), x -> x.weight(1, 0));
        }
    }

    // 7: "in place of another one"
    private static void weightInPlaceOfAnother() {
        int[][] last = {{}, {1, 0}, {4, 6}, {40, 60}, {4000, 6000}};
        int[][] shares = {{}, {100, 0}, {40, 60}, {40, 60}, {40, 60}};
        ExpenseClubs x = Due.clubOf(2);
        for (int way = 1; way <= 4; way++) {
            x.bill(0, way, 100, Due.PAR);
            x.payer(0, 100);
            for (int m = 0; m < 2; m++) {
                Due.yes("weight", x.weight(m, 1));
                Due.yes("weight in place", x.weight(m, last[way][m]));
            }
            Due.same("post()", x.post(), way - 1);
            Due.shares(x, way - 1, shares[way][0], shares[way][1]);
        }
    }

    // 8: "false if there is none", no draft by LINES
    private static void lineWithoutDraftByLines() {
        Twin.no("line(1, 1) before a draft", Scene::settling, x -> x.line(1, 1));
        for (int way = 1; way <= 4; way++) {
            Twin.no("line(1, 1) by way " + way, draft(way), x -> x.line(1, 1));
        }
        Twin.Steps posted = x -> {
            Scene.lines(x);
            x.post();
        };
        Twin.no("line(1, 1) after post()", posted, x -> x.line(1, 1));
    }

    // 8: "cents are not 1 .. 100000000"
    private static void lineCents() {
        for (int cents : new int[] {0, -1, Scene.MOST_CENTS + 1, Scene.MIN, Scene.MAX}) {
            Twin.no(told("line", cents, 1), Scene::lines, x -> x.line(cents, 1));
        }
        for (int cents : new int[] {1, 2, Scene.MOST_CENTS - 1, Scene.MOST_CENTS}) {
            Twin.yes(told("line", cents, 1), Scene::lines, x -> x.line(cents, 1));
        }
        ExpenseClubs x = Due.clubOf(1);
        x.bill(0, 5, Scene.MOST_CENTS, Due.PAR);
        x.payer(0, Scene.MOST_CENTS);
        Due.yes("a line of the most cents", x.line(Scene.MOST_CENTS, 1));
        Due.same("post()", x.post(), 0);
    }

    // 8: "the set has none"
    private static void lineOfNoMembers() {
        Twin.no("line(1, 0)", Scene::lines, x -> x.line(1, 0));
        ExpenseClubs x = new ExpenseClubs();
        x.club();
        x.bill(0, 5, 1, 1);
        Due.no("line(1, 0) of a club without members", x.line(1, 0));
        Due.no("line(1, 1) of a club without members", x.line(1, 1));
    }

    // 8: "or one that is no member"
    private static void lineWithNoMember() {
        for (int bit = 5; bit < 32; bit++) {
            int one = 1 << bit;
            Twin.no("line(1, bit " + bit + ")", Scene::lines, x -> x.line(1, one));
            Twin.no("line(1, 0 and bit " + bit + ")", Scene::lines, x -> x.line(1, one | 1));
        }
        Twin.no("line(1, -1)", Scene::lines, x -> x.line(1, -1));
        Twin.no("line(1, max)", Scene::lines, x -> x.line(1, Scene.MAX));
        Twin.yes("line(1, 15)", Scene::lines, x -> x.line(1, 15));
        ExpenseClubs x = Due.clubOf(11);
        x.bill(0, 5, 1, 1);
        Due.no("line(1, 2048) of 11", x.line(1, 2048));
        Due.no("line(1, 4095) of 11", x.line(1, 4095));
        Due.yes("line(1, 2047) of 11", x.line(1, 2047));
        x.member(0);
        Due.yes("line(1, 2048) of 12", x.line(1, 2048));
        Due.yes("line(1, 4095) of 12", x.line(1, 4095));
        Due.no("line(1, 4096) of 12", x.line(1, 4096));
        Due.no("line(1, 8191) of 12", x.line(1, 8191));
    }

    // 8: "or left"
    private static void lineWithOneWhoLeft() {
        Twin.no("line(1, 16), who left", Scene::lines, x -> x.line(1, 16));
        Twin.no("line(1, 17), one of whom left", Scene::lines, x -> x.line(1, 17));
        Twin.no("line(1, 31), one of whom left", Scene::lines, x -> x.line(1, 31));
    }

    // 8: "or there are 16 lines"
    private static void lineSixteen() {
        Twin.yes("a line after 15", x -> linesOf(x, 15), x -> x.line(1, 2));
        Twin.no("a line after 16", x -> linesOf(x, 16), x -> x.line(1, 2));
        ExpenseClubs x = Due.clubOf(2);
        x.bill(0, 5, 16, Due.PAR);
        x.payer(0, 16);
        for (int k = 0; k < 16; k++) {
            Due.no("a line refused takes no place", x.line(0, 1));
            Due.no("a line refused takes no place", x.line(1, 4));
            Due.yes("line " + k, x.line(1, 1 + k % 2));
        }
        Due.no("line 16", x.line(1, 1));
        Due.same("post()", x.post(), 0);
        Due.shares(x, 0, 8, 8);
    }

    private static void linesOf(ExpenseClubs x, int lines) {
        x.club();
        Scene.members(x, 0, 2);
        x.bill(0, 5, lines, Due.PAR);
        x.payer(0, lines);
        for (int k = 0; k < lines; k++) {
            x.line(1, 1);
        }
    }
}
