import java.math.BigInteger;

/** The boundaries that the document's terms name: totals, payers, weights, shares, the mark, drifts. */
public final class TermsEdgeTest {
    private static final BigInteger MILLION = BigInteger.valueOf(1000000);
    private static final BigInteger THOUSAND = BigInteger.valueOf(1000);

    public static void main(String[] args) {
        totals();
        totalOfNothing();
        paidWithNothingWanting();
        paidFromTheLowest();
        paidMostWanting();
        paidDoesNotHeedTheMark();
        productsPastALong();
        driftsPastALong();
        greatestBillByEachWay();
        linesByTheirSets();
        linesThatMeet();
        lineOfAllAndLineOfOne();
        sharesWithNothingWanting();
        sharesMostWanting();
        sharesPassOverThoseWithoutAWeight();
        sharesByRounding();
        markAtFirst();
        markStays();
        markBehindEachMember();
        markBehindMemberEleven();
        markRunsPastTheEnd();
        markWhereNoMemberIs();
        markOfEachClub();
        driftsAboveAndBelow();
        Due.end();
    }

    private static BigInteger big(long n) {
        return BigInteger.valueOf(n);
    }

    private static long div(BigInteger a, BigInteger b) {
        return a.divide(b).longValueExact();
    }

    // "Its TOTAL in the club's cents is DIV(CENTS * RATE + 500000, 1000000)"
    private static void totals() {
        int[] rates = {1, 4999, 5000, 5001, 499999, 500000, 500001, 999999, 1000000, 1499999, 1500000, 1500001,
            123456789, Scene.MOST_RATE - 1, Scene.MOST_RATE};
        ExpenseClubs x = null;
        for (int cents : new int[] {1, 2, 3, 99, 100, 101, 21475, Scene.MOST_CENTS - 1, Scene.MOST_CENTS}) {
            x = Due.clubOf(1);
            for (int b = 0; b < rates.length; b++) {
                x.bill(0, 1, cents, rates[b]);
                x.payer(0, cents);
                x.weight(0, 1);
                Due.same("post()", x.post(), b);
                long want = div(big(cents).multiply(big(rates[b])).add(big(500000)), MILLION);
                Due.same("total of " + cents + " at " + rates[b], x.total(b), want);
                Due.same("share of " + cents + " at " + rates[b], x.about(b, 0, 0), want);
                Due.same("paid of " + cents + " at " + rates[b], x.about(b, 0, 1), want);
            }
        }
        Due.same("the greatest total", x.total(rates.length - 1), 100000000000L);
    }

    // A TOTAL of 0 leaves nothing to pay, to share or to add.
    private static void totalOfNothing() {
        ExpenseClubs x = Due.clubOf(3);
        Due.even(x, 4, 7);
        x.bill(0, 1, 49, 10000);
        x.payer(1, 48);
        x.payer(2, 1);
        x.weight(0, 1);
        x.weight(1, 1);
        Due.same("post()", x.post(), 1);
        Due.same("total(1)", x.total(1), 0);
        Due.shares(x, 1, 0, 0, 0);
        Due.paid(x, 1, 0, 0, 0);
        Due.drifts(x, 1, 0, 0, 0);
        Due.same("the mark stays", x.count(0, 3), 1);
        x.bill(0, 1, 50, 10000);
        x.payer(1, 49);
        x.payer(2, 1);
        x.weight(0, 1);
        x.weight(1, 1);
        Due.same("post()", x.post(), 2);
        Due.same("total(2)", x.total(2), 1);
        Due.shares(x, 2, 0, 1, 0);
        Due.paid(x, 2, 0, 1, 0);
        Due.drifts(x, 2, -500, 500, 0);
        Due.same("the mark", x.count(0, 3), 2);
    }

    /** A bill of a cent for each of so many payers, from member first on, that comes to a total. */
    private static int centEach(ExpenseClubs x, int first, int payers, int total) {
        x.bill(0, 1, payers, (int) ((1000000L * total + payers - 1) / payers));
        for (int m = first; m < first + payers; m++) {
            x.payer(m, 1);
        }
        x.weight(0, 1);
        int bill = x.post();
        Due.same("total(" + bill + ")", x.total(bill), total);
        return bill;
    }

    // "what is wanting to TOTAL": nothing
    private static void paidWithNothingWanting() {
        ExpenseClubs x = Due.clubOf(12);
        Due.paid(x, centEach(x, 0, 12, 24), 2, 2, 2, 2, 2, 2, 2, 2, 2, 2, 2, 2);
        Due.paid(x, centEach(x, 3, 3, 9), 0, 0, 0, 3, 3, 3, 0);
        Due.paid(x, centEach(x, 11, 1, 7), 0, 0, 0, 0, 0, 0, 0, 0, 0, 0, 0, 7);
    }

    // "is added one by one to payers with cents, from the lowest member on"
    private static void paidFromTheLowest() {
        ExpenseClubs x = Due.clubOf(6);
        Due.paid(x, centEach(x, 0, 3, 4), 2, 1, 1, 0, 0, 0);
        Due.paid(x, centEach(x, 0, 3, 5), 2, 2, 1, 0, 0, 0);
        Due.paid(x, centEach(x, 3, 3, 4), 0, 0, 0, 2, 1, 1);
        Due.paid(x, centEach(x, 3, 3, 1), 0, 0, 0, 1, 0, 0);
        x.bill(0, 1, 7, 1142858);
        x.payer(0, 0);
        x.payer(1, 6);
        x.payer(2, 0);
        x.payer(5, 1);
        x.weight(0, 1);
        Due.same("post()", x.post(), 4);
        Due.same("total(4)", x.total(4), 8);
        // 8 * 6 / 7 = 6.9 and 8 * 1 / 7 = 1.1: the cent goes to the lower one, who lacks most here ..
        Due.paid(x, 4, 0, 7, 0, 0, 0, 1);
        x.bill(0, 1, 7, 1142858);
        x.payer(1, 1);
        x.payer(5, 6);
        x.weight(0, 1);
        Due.same("post()", x.post(), 5);
        // .. and here lacks least.
        Due.paid(x, 5, 0, 2, 0, 0, 0, 6);
    }

    // A cent less than the payers are is the most that can be wanting.
    private static void paidMostWanting() {
        ExpenseClubs x = Due.clubOf(12);
        Due.paid(x, centEach(x, 0, 12, 23), 2, 2, 2, 2, 2, 2, 2, 2, 2, 2, 2, 1);
        Due.paid(x, centEach(x, 0, 12, 11), 1, 1, 1, 1, 1, 1, 1, 1, 1, 1, 1, 0);
        Due.paid(x, centEach(x, 0, 12, 1), 1, 0, 0, 0, 0, 0, 0, 0, 0, 0, 0, 0);
        Due.paid(x, centEach(x, 10, 2, 3), 0, 0, 0, 0, 0, 0, 0, 0, 0, 0, 2, 1);
    }

    // The mark is the shares' alone.
    private static void paidDoesNotHeedTheMark() {
        ExpenseClubs x = Due.clubOf(3);
        Due.even(x, 5, 7);
        Due.same("the mark", x.count(0, 3), 2);
        Due.paid(x, centEach(x, 0, 3, 4), 2, 1, 1);
        Due.same("the mark, which payers don't move", x.count(0, 3), 2);
    }

    /** An exact bill of the greatest total, of which member 0 has so many cents and member 1 the rest. */
    private static void greatExact(int weight) {
        ExpenseClubs x = Due.clubOf(2);
        x.bill(0, 3, Scene.MOST_CENTS, Scene.MOST_RATE - 1);
        x.payer(0, weight);
        x.payer(1, Scene.MOST_CENTS - weight);
        x.weight(0, weight);
        x.weight(1, Scene.MOST_CENTS - weight);
        Due.same("post()", x.post(), 0);
        BigInteger total = big(99999999900L);
        BigInteger cents = big(Scene.MOST_CENTS);
        Due.same("total", x.total(0), total.longValueExact());
        long first = div(total.multiply(big(weight)), cents);
        long second = div(total.multiply(cents.subtract(big(weight))), cents);
        long wanting = total.longValueExact() - first - second;
        String of = " of " + weight + " cents";
        Due.same("share" + of, x.about(0, 0, 0), first + wanting);
        Due.same("paid" + of, x.about(0, 0, 1), first + wanting);
        Due.same("share of the rest" + of, x.about(0, 1, 0), second);
        Due.same("paid of the rest" + of, x.about(0, 1, 1), second);
        long fair = div(THOUSAND.multiply(total).multiply(big(weight)), cents);
        Due.same("drift" + of, x.about(0, 0, 2), 1000 * (first + wanting) - fair);
    }

    // "(worked out without running over)": TOTAL * cents comes to 2^63 at 92233720 and 92233721 cents
    private static void productsPastALong() {
        for (int weight : new int[] {1, 46116860, 46116861, 92233720, 92233721, 92233722, Scene.MOST_CENTS - 1}) {
            greatExact(weight);
        }
    }

    // "(worked out without running over)": 1000 * TOTAL * weight comes to 2^63 and 2^64
    private static void driftsPastALong() {
        for (int weight : new int[] {92233, 92234, 184467, 184468, 9223372, 18446745, 18446746}) {
            greatExact(weight);
        }
    }

    /** The weight of member m in the greatest bill that all twelve share, by each of the ways. */
    private static int greatestWeight(int way, int m) {
        int more = m < 4 ? 1 : 0;
        return way == 3 ? 8333333 + more : way == 4 ? 833 + more : way == 2 ? 1000 : 1;
    }

    private static void greatestBillByEachWay() {
        for (int way = 1; way <= 5; way++) {
            ExpenseClubs x = Due.clubOf(12);
            x.bill(0, way, Scene.MOST_CENTS, Scene.MOST_RATE);
            x.payer(11, Scene.MOST_CENTS);
            BigInteger sum = BigInteger.ZERO;
            for (int m = 0; m < 12; m++) {
                x.weight(m, greatestWeight(way, m));
                sum = sum.add(big(greatestWeight(way, m)));
            }
            x.line(Scene.MOST_CENTS, 4095);
            Due.same("post() by way " + way, x.post(), 0);
            for (int m = 0; m < 12; m++) {
                BigInteger whole = big(100000000000L).multiply(big(greatestWeight(way, m)));
                // Exact cents and percents come out even; else 4 cents are wanting.
                int added = way != 3 && way != 4 && m < 4 ? 1 : 0;
                long share = div(whole, sum) + added;
                Due.same("share by way " + way, x.about(0, m, 0), share);
                Due.same("drift by way " + way, x.about(0, m, 2), 1000 * share - div(whole.multiply(THOUSAND), sum));
            }
        }
    }

    // "27720 / (how many the set has) * the line's cents", for sets of 1 to 12
    private static void linesByTheirSets() {
        ExpenseClubs x = Due.clubOf(12);
        for (int size = 1; size <= 12; size++) {
            x.bill(0, 5, 27720, Due.PAR);
            x.payer(0, 27720);
            Due.yes("a line of " + size, x.line(27720, ((1 << size) - 1) << (12 - size)));
            Due.same("post()", x.post(), size - 1);
            for (int m = 0; m < 12; m++) {
                long want = m < 12 - size ? 0 : 27720 / size;
                Due.same("share of member " + m + ", set of " + size, x.about(size - 1, m, 0), want);
                Due.same("drift of member " + m + ", set of " + size, x.about(size - 1, m, 2), 0);
            }
        }
    }

    // "the sum .. over the lines in whose set it is"
    private static void linesThatMeet() {
        ExpenseClubs x = Due.clubOf(12);
        x.bill(0, 5, 12 * 13 / 2, Due.PAR);
        x.payer(0, 12 * 13 / 2);
        for (int size = 1; size <= 12; size++) {
            x.line(size, (1 << size) - 1);
        }
        Due.same("post()", x.post(), 0);
        // Each line gives a cent to each of its set: member m is in those of more than m.
        Due.shares(x, 0, 12, 11, 10, 9, 8, 7, 6, 5, 4, 3, 2, 1);
        Due.drifts(x, 0, 0, 0, 0, 0, 0, 0, 0, 0, 0, 0, 0, 0);
        Due.same("the mark stays", x.count(0, 3), 0);
        x.bill(0, 5, 6, Due.PAR);
        x.payer(0, 6);
        x.line(2, 3);
        x.line(2, 3);
        x.line(2, 6);
        Due.same("post() of a line twice", x.post(), 1);
        Due.shares(x, 1, 2, 3, 1);
    }

    private static void lineOfAllAndLineOfOne() {
        ExpenseClubs x = Due.clubOf(12);
        x.bill(0, 5, 2, Due.PAR);
        x.payer(0, 2);
        x.line(1, 4095);
        x.line(1, 2048);
        Due.same("post()", x.post(), 0);
        // Weights of 2310 for all but member 11, who has 30030: 2 * 30030 / 55440 is 1.083.
        Due.shares(x, 0, 1, 0, 0, 0, 0, 0, 0, 0, 0, 0, 0, 1);
        Due.drifts(x, 0, 917, -83, -83, -83, -83, -83, -83, -83, -83, -83, -83, -83);
        Due.same("the mark", x.count(0, 3), 1);
    }

    // "what is wanting to TOTAL": nothing, "(it stays where it was, if none was)"
    private static void sharesWithNothingWanting() {
        ExpenseClubs x = Due.clubOf(12);
        Due.even(x, 24, 4095);
        Due.shares(x, 0, 2, 2, 2, 2, 2, 2, 2, 2, 2, 2, 2, 2);
        Due.drifts(x, 0, 0, 0, 0, 0, 0, 0, 0, 0, 0, 0, 0, 0);
        Due.same("the mark", x.count(0, 3), 0);
        Due.even(x, 7, 64);
        Due.same("share of the only one", x.about(1, 6, 0), 7);
        Due.same("the mark", x.count(0, 3), 0);
    }

    // A cent less than those with a weight are is the most that can be wanting.
    private static void sharesMostWanting() {
        ExpenseClubs x = Due.clubOf(12);
        Due.even(x, 23, 4095);
        Due.shares(x, 0, 2, 2, 2, 2, 2, 2, 2, 2, 2, 2, 2, 1);
        Due.same("the mark", x.count(0, 3), 11);
        Due.even(x, 11, 4095);
        Due.shares(x, 1, 1, 1, 1, 1, 1, 1, 1, 1, 1, 1, 0, 1);
        Due.same("the mark", x.count(0, 3), 10);
    }

    // "to members with a weight"
    private static void sharesPassOverThoseWithoutAWeight() {
        ExpenseClubs x = Due.clubOf(5);
        Due.even(x, 3, 26);
        Due.same("the mark stays", x.count(0, 3), 0);
        Due.even(x, 4, 26);
        Due.shares(x, 1, 0, 2, 0, 1, 1);
        Due.same("the mark", x.count(0, 3), 2);
        Due.even(x, 5, 26);
        Due.shares(x, 2, 0, 1, 0, 2, 2);
        Due.same("the mark", x.count(0, 3), 5);
        Due.even(x, 5, 26);
        Due.shares(x, 3, 0, 2, 0, 2, 1);
        Due.same("the mark", x.count(0, 3), 4);
    }

    // A weight whose DIV is 0 gets a cent where it is wanting, however small it is.
    private static void sharesByRounding() {
        ExpenseClubs x = Due.clubOf(3);
        x.bill(0, 2, 100, Due.PAR);
        x.payer(0, 100);
        x.weight(0, 1);
        x.weight(1, 1000);
        x.weight(2, 1000);
        Due.same("post()", x.post(), 0);
        // 100 * 1 / 2001 is 0.049, 100 * 1000 / 2001 is 49.975: two cents are wanting.
        Due.shares(x, 0, 1, 50, 49);
        Due.drifts(x, 0, 951, 25, -975);
        Due.same("the mark", x.count(0, 3), 2);
    }

    // "the club's MARK .. (member 0 at first)"
    private static void markAtFirst() {
        ExpenseClubs x = Due.clubOf(0);
        Due.same("the mark of a club without members", x.count(0, 3), 0);
        Scene.members(x, 0, 2);
        Due.same("the mark of a club without bills", x.count(0, 3), 0);
        Due.even(x, 1, 3);
        Due.shares(x, 0, 1, 0);
    }

    // The mark moves by a post alone.
    private static void markStays() {
        ExpenseClubs x = Due.clubOf(3);
        Due.even(x, 4, 7);
        Due.same("the mark", x.count(0, 3), 1);
        Scene.evenDraft(x, 0, 5, 7);
        x.settle(0);
        Due.same("post() refused", x.post(), -2);
        Due.same("the mark", x.count(0, 3), 1);
        x.tick(0, 0);
        x.giveUp(0);
        x.member(0);
        x.leave(0, 3);
        Due.same("the mark", x.count(0, 3), 1);
        Due.same("post()", x.post(), 1);
        Due.shares(x, 1, 1, 2, 2);
        Due.same("the mark", x.count(0, 3), 3);
    }

    // "the mark is then behind the last one to whom a cent was added"
    private static void markBehindEachMember() {
        ExpenseClubs x = Due.clubOf(12);
        for (int b = 0; b < 14; b++) {
            Due.same("post()", Due.even(x, 1, 4095), b);
            for (int m = 0; m < 12; m++) {
                Due.same("share of member " + m + " in bill " + b, x.about(b, m, 0), m == b % 12 ? 1 : 0);
            }
            Due.same("the mark after bill " + b, x.count(0, 3), (b + 1) % 12);
        }
    }

    // "behind member 11 is 0"
    private static void markBehindMemberEleven() {
        ExpenseClubs x = Due.clubOf(12);
        Due.even(x, 3, 3072);
        Due.same("the mark behind member 10", x.count(0, 3), 11);
        Due.even(x, 3, 3072);
        Due.same("share of member 11", x.about(1, 11, 0), 2);
        Due.same("the mark behind member 11", x.count(0, 3), 0);
        Due.even(x, 3, 3);
        Due.shares(x, 2, 2, 1);
        Due.same("the mark", x.count(0, 3), 1);
    }

    // "going round by their numbers from the club's MARK on"
    private static void markRunsPastTheEnd() {
        ExpenseClubs x = Due.clubOf(12);
        Due.even(x, 10, 4095);
        Due.same("the mark", x.count(0, 3), 10);
        Due.even(x, 4, 4095);
        Due.shares(x, 1, 1, 1, 0, 0, 0, 0, 0, 0, 0, 0, 1, 1);
        Due.same("the mark", x.count(0, 3), 2);
        Due.even(x, 10, 4095);
        Due.shares(x, 2, 0, 0, 1, 1, 1, 1, 1, 1, 1, 1, 1, 1);
        Due.same("the mark", x.count(0, 3), 0);
    }

    // The mark may be a number that no member has yet; only behind member 11 it is 0.
    private static void markWhereNoMemberIs() {
        ExpenseClubs x = Due.clubOf(2);
        Due.even(x, 1, 2);
        Due.even(x, 3, 3);
        Due.even(x, 3, 3);
        Due.same("the mark behind the last member", x.count(0, 3), 2);
        Due.even(x, 3, 3);
        Due.shares(x, 3, 2, 1);
        Due.even(x, 3, 3);
        Due.same("the mark behind the last member", x.count(0, 3), 2);
        Due.same("member(0)", x.member(0), 2);
        Due.even(x, 4, 7);
        Due.shares(x, 5, 1, 1, 2);
        Due.same("the mark behind the new one", x.count(0, 3), 3);
    }

    // "the club's MARK"
    private static void markOfEachClub() {
        ExpenseClubs x = new ExpenseClubs();
        for (int c = 0; c < 4; c++) {
            x.club();
            Scene.members(x, c, 4);
        }
        for (int c = 0; c < 4; c++) {
            Scene.evenDraft(x, c, 4 + c, 15);
            Due.same("post()", x.post(), c);
        }
        for (int c = 0; c < 4; c++) {
            Due.same("the mark of club " + c, x.count(c, 3), c);
        }
    }

    // "The DRIFT of a share: 1000 * the share - DIV(1000 * TOTAL * its weight, W)"
    private static void driftsAboveAndBelow() {
        ExpenseClubs x = Due.clubOf(12);
        Due.even(x, 7, 127);
        Due.drifts(x, 0, 0, 0, 0, 0, 0, 0, 0);
        Due.even(x, 8, 127);
        // 8 / 7 is 1.142857: DIV takes 1142, so that who got the cent has 2000 - 1142.
        Due.drifts(x, 1, 858, -142, -142, -142, -142, -142, -142);
        Due.even(x, 1, 4095);
        Due.drifts(x, 2, -83, 917, -83, -83, -83, -83, -83, -83, -83, -83, -83, -83);
        x.bill(0, 2, 1, Due.PAR);
        x.payer(0, 1);
        for (int m = 0; m < 12; m++) {
            x.weight(m, m == 0 ? 1 : 1000);
        }
        Due.same("post()", x.post(), 3);
        // 1000 * 1 / 11001 is below 1, so that member 0 has no drift at all.
        Due.drifts(x, 3, 0, -90, 910, -90, -90, -90, -90, -90, -90, -90, -90, -90);
    }
}
