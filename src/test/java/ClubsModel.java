import java.math.BigInteger;
import java.util.ArrayList;
import java.util.HashMap;
import java.util.List;
import java.util.Map;

/**
 * The document's words, one by one and slowly: whole numbers without bounds, and balances that are
 * summed anew from all bills and all ticked transfers whenever they are asked for.
 */
final class ClubsModel {
    static final class ModelClub {
        int members;
        final List<Integer> left = new ArrayList<>();
        int mark;
        final List<Transfer> made = new ArrayList<>();
        List<Integer> groups;
        List<Transfer> transfers;
    }

    static final class Transfer {
        int from;
        int to;
        BigInteger cents;
        boolean ticked;
    }

    static final class ModelBill {
        ModelClub club;
        int way;
        int cents;
        int rate;
        final int[] payers = new int[12];
        final int[] weights = new int[12];
        final List<int[]> lines = new ArrayList<>();
        boolean struck;
        BigInteger total;
        final BigInteger[] paid = new BigInteger[12];
        final BigInteger[] shares = new BigInteger[12];
        final BigInteger[] drifts = new BigInteger[12];
    }

    private final List<ModelClub> clubs = new ArrayList<>();
    private final List<ModelBill> bills = new ArrayList<>();
    private ModelBill draft;

    private static BigInteger big(long n) {
        return BigInteger.valueOf(n);
    }

    /** For a not below 0. */
    private static BigInteger div(BigInteger a, BigInteger b) {
        return a.divide(b);
    }

    private ModelClub club(int n) {
        return n >= 0 && n < clubs.size() ? clubs.get(n) : null;
    }

    private ModelBill bill(int n) {
        return n >= 0 && n < bills.size() ? bills.get(n) : null;
    }

    private static boolean has(ModelClub c, int m) {
        return c != null && m >= 0 && m < c.members;
    }

    private static boolean stays(ModelClub c, int m) {
        return has(c, m) && !c.left.contains(m);
    }

    private static boolean open(ModelClub c) {
        return c.transfers != null;
    }

    private BigInteger balanceOf(ModelClub c, int m) {
        BigInteger sum = BigInteger.ZERO;
        for (ModelBill b : bills) {
            if (b.club == c && !b.struck) {
                sum = sum.add(b.paid[m]).subtract(b.shares[m]);
            }
        }
        for (Transfer t : c.made) {
            sum = t.from == m ? sum.add(t.cents) : t.to == m ? sum.subtract(t.cents) : sum;
        }
        return sum;
    }

    int club() {
        if (clubs.size() == 4) {
            return -1;
        }
        clubs.add(new ModelClub());
        return clubs.size() - 1;
    }

    int member(int n) {
        ModelClub c = club(n);
        return c == null || c.members == 12 ? -1 : c.members++;
    }

    boolean leave(int n, int m) {
        ModelClub c = club(n);
        if (!stays(c, m) || balanceOf(c, m).signum() != 0 || open(c)) {
            return false;
        }
        return c.left.add(m);
    }

    boolean bill(int n, int way, int cents, int rate) {
        boolean can = club(n) != null && way >= 1 && way <= 5 && cents >= 1 && cents <= 100000000
                && rate >= 1 && rate <= 1000000000;
        if (can) {
            draft = new ModelBill();
            draft.club = club(n);
            draft.way = way;
            draft.cents = cents;
            draft.rate = rate;
        }
        return can;
    }

    boolean payer(int m, int cents) {
        boolean can = draft != null && stays(draft.club, m) && cents >= 0 && cents <= 100000000;
        if (can) {
            draft.payers[m] = cents;
        }
        return can;
    }

    boolean weight(int m, int n) {
        if (draft == null || draft.way == 5 || !stays(draft.club, m) || n < 0) {
            return false;
        }
        int most = new int[] {0, 1, 1000, 100000000, 10000}[draft.way];
        if (n > most) {
            return false;
        }
        draft.weights[m] = n;
        return true;
    }

    boolean line(int cents, int set) {
        if (draft == null || draft.way != 5 || cents < 1 || cents > 100000000 || set == 0) {
            return false;
        }
        for (int m = 0; m < 32; m++) {
            if ((set >>> m & 1) == 1 && !stays(draft.club, m)) {
                return false;
            }
        }
        return draft.lines.size() < 16 && draft.lines.add(new int[] {cents, set});
    }

    private static BigInteger weightOf(ModelBill b, int m) {
        BigInteger sum = big(b.weights[m]);
        for (int[] line : b.lines) {
            if ((line[1] >> m & 1) == 1) {
                sum = sum.add(big(27720 / Integer.bitCount(line[1])).multiply(big(line[0])));
            }
        }
        return sum;
    }

    private int refusal() {
        if (draft == null) {
            return -1;
        }
        if (open(draft.club)) {
            return -2;
        }
        if (bills.size() == 64) {
            return -3;
        }
        long paid = 0;
        long given = 0;
        boolean weighty = false;
        for (int m = 0; m < 12; m++) {
            boolean heavy = weightOf(draft, m).signum() > 0;
            if (draft.club.left.contains(m) && (draft.payers[m] > 0 || heavy)) {
                return -4;
            }
            paid += draft.payers[m];
            given += draft.weights[m];
            weighty |= heavy;
        }
        for (int[] line : draft.lines) {
            given += line[0];
        }
        if (paid != draft.cents) {
            return -5;
        }
        if (!weighty) {
            return -6;
        }
        long due = draft.way == 4 ? 10000 : draft.cents;
        return draft.way >= 3 && given != due ? -7 : 0;
    }

    int post() {
        int refusal = refusal();
        if (refusal != 0) {
            return refusal;
        }
        work(draft);
        bills.add(draft);
        draft = null;
        return bills.size() - 1;
    }

    private static void work(ModelBill b) {
        b.total = div(big(b.cents).multiply(big(b.rate)).add(big(500000)), big(1000000));
        BigInteger wanting = b.total;
        BigInteger sum = BigInteger.ZERO;
        for (int m = 0; m < 12; m++) {
            b.paid[m] = div(b.total.multiply(big(b.payers[m])), big(b.cents));
            wanting = wanting.subtract(b.paid[m]);
            sum = sum.add(weightOf(b, m));
        }
        for (int m = 0; wanting.signum() > 0; m = (m + 1) % 12) {
            if (b.payers[m] > 0) {
                b.paid[m] = b.paid[m].add(BigInteger.ONE);
                wanting = wanting.subtract(BigInteger.ONE);
            }
        }
        wanting = b.total;
        for (int m = 0; m < 12; m++) {
            b.shares[m] = div(b.total.multiply(weightOf(b, m)), sum);
            wanting = wanting.subtract(b.shares[m]);
        }
        for (int m = b.club.mark; wanting.signum() > 0; m = (m + 1) % 12) {
            if (weightOf(b, m).signum() > 0) {
                b.shares[m] = b.shares[m].add(BigInteger.ONE);
                wanting = wanting.subtract(BigInteger.ONE);
                b.club.mark = m == 11 ? 0 : m + 1;
            }
        }
        for (int m = 0; m < 12; m++) {
            BigInteger fair = div(big(1000).multiply(b.total).multiply(weightOf(b, m)), sum);
            b.drifts[m] = big(1000).multiply(b.shares[m]).subtract(fair);
        }
    }

    boolean strike(int n) {
        ModelBill b = bill(n);
        if (b == null || b.struck || open(b.club)) {
            return false;
        }
        b.struck = true;
        return true;
    }

    long about(int n, int m, int what) {
        ModelBill b = bill(n);
        if (b == null || what < 0 || what > 2) {
            return -1;
        }
        BigInteger[] row = what == 0 ? b.shares : what == 1 ? b.paid : b.drifts;
        return m < 0 || m > 11 ? 0 : row[m].longValueExact();
    }

    long total(int n) {
        return bill(n) == null ? -1 : bill(n).total.longValueExact();
    }

    long balance(int n, int m) {
        return has(club(n), m) ? balanceOf(club(n), m).longValueExact() : 0;
    }

    long drift(int n, int m) {
        BigInteger sum = BigInteger.ZERO;
        for (ModelBill b : bills) {
            if (has(club(n), m) && b.club == club(n) && !b.struck) {
                sum = sum.add(b.drifts[m]);
            }
        }
        return sum.longValueExact();
    }

    /** The division of a set, tried out over all groups that its lowest member can have. */
    private static List<Integer> divide(int set, BigInteger[] sums, Map<Integer, List<Integer>> known) {
        if (set == 0) {
            return new ArrayList<>();
        }
        if (known.containsKey(set)) {
            return known.get(set);
        }
        List<Integer> best = null;
        for (int group = 1; group <= set; group++) {
            boolean fits = (group & ~set) == 0 && (group & Integer.lowestOneBit(set)) != 0;
            if (fits && sums[group].signum() == 0) {
                List<Integer> rest = divide(set & ~group, sums, known);
                if (best == null || rest.size() + 1 > best.size()) {
                    best = new ArrayList<>();
                    best.add(group);
                    best.addAll(rest);
                }
            }
        }
        known.put(set, best);
        return best;
    }

    int settle(int n) {
        ModelClub c = club(n);
        if (c == null || open(c)) {
            return -1;
        }
        BigInteger[] sums = new BigInteger[4096];
        sums[0] = BigInteger.ZERO;
        int all = 0;
        for (int m = 0; m < 12; m++) {
            BigInteger balance = balanceOf(c, m);
            all |= balance.signum() == 0 ? 0 : 1 << m;
            for (int set = 0; set < 1 << m; set++) {
                sums[set | 1 << m] = sums[set].add(balance);
            }
        }
        c.groups = divide(all, sums, new HashMap<>());
        c.transfers = new ArrayList<>();
        for (int group : c.groups) {
            for (int a = 0; a < 12; a++) {
                int behind = group & ~((2 << a) - 1);
                if ((group >> a & 1) == 1 && behind != 0) {
                    BigInteger s = sums[group & ((2 << a) - 1)];
                    c.transfers.add(between(a, Integer.numberOfTrailingZeros(behind), s));
                }
            }
        }
        return c.transfers.size();
    }

    private static Transfer between(int a, int b, BigInteger s) {
        Transfer t = new Transfer();
        t.from = s.signum() < 0 ? a : b;
        t.to = s.signum() < 0 ? b : a;
        t.cents = s.abs();
        return t;
    }

    private Transfer transferAt(int n, int i) {
        ModelClub c = club(n);
        return c == null || !open(c) || i < 0 || i >= c.transfers.size() ? null : c.transfers.get(i);
    }

    long transfer(int n, int i, int what) {
        Transfer t = transferAt(n, i);
        if (t == null) {
            throw new IndexOutOfBoundsException();
        }
        if (what < 0 || what > 3) {
            throw new IllegalArgumentException();
        }
        return what == 0 ? t.from : what == 1 ? t.to : what == 2 ? t.cents.longValueExact() : t.ticked ? 1 : 0;
    }

    boolean tick(int n, int i) {
        Transfer t = transferAt(n, i);
        if (t == null || t.ticked) {
            return false;
        }
        t.ticked = true;
        return club(n).made.add(t);
    }

    private static int waiting(ModelClub c) {
        int sum = 0;
        for (Transfer t : c.transfers) {
            sum += t.ticked ? 0 : 1;
        }
        return sum;
    }

    int giveUp(int n) {
        ModelClub c = club(n);
        if (c == null || !open(c)) {
            return -1;
        }
        int waiting = waiting(c);
        c.transfers = null;
        return waiting;
    }

    boolean close(int n) {
        ModelClub c = club(n);
        return c != null && open(c) && waiting(c) == 0 && giveUp(n) == 0;
    }

    int count(int n, int what) {
        ModelClub c = club(n);
        if (c == null || what < 0 || what > 3) {
            return -1;
        }
        if (what == 0) {
            return c.members;
        }
        if (what == 3) {
            return c.mark;
        }
        return !open(c) ? -1 : what == 1 ? c.groups.size() : waiting(c);
    }

    int groupOf(int n, int m) {
        ModelClub c = club(n);
        if (!has(c, m) || !open(c)) {
            return -1;
        }
        for (int g = 0; g < c.groups.size(); g++) {
            if ((c.groups.get(g) >> m & 1) == 1) {
                return g;
            }
        }
        return -1;
    }
}
