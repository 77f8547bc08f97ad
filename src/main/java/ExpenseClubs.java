/**
 * Bills that members of clubs share in five ways, in any currency, to the last cent, and
 * settlements that clear all balances by the fewest transfers.
 */
public final class ExpenseClubs {
    public static final int NONE = -1;

    private static final int MOST_CLUBS = 4;
    private static final int MOST_MEMBERS = 12;
    private static final int MOST_BILLS = 64;
    private static final int MOST_LINES = 16;
    private static final int MOST_CENTS = 100000000;
    private static final int MOST_RATE = 1000000000;
    private static final int MOST_PARTS = 1000;
    private static final int WHOLE_PERCENT = 10000;

    private static final int EVEN = 1;
    private static final int PARTS = 2;
    private static final int EXACT = 3;
    private static final int PERCENT = 4;
    private static final int LINES = 5;

    /** The least number that 1 .. 12 all divide, so that a line is cut without a rest. */
    private static final int LINE_UNITS = 27720;

    private static final int MILLION = 1000000;
    private static final int DRIFT_UNITS = 1000;
    private static final int DIGIT_BITS = 20;
    private static final int TOP_DIGIT = 40;
    private static final int DIGIT_MASK = (1 << DIGIT_BITS) - 1;

    private static final int FINE = 0;
    private static final int NO_DRAFT = -1;
    private static final int SETTLEMENT_OPEN = -2;
    private static final int TOO_MANY_BILLS = -3;
    private static final int SOMEONE_LEFT = -4;
    private static final int NOT_ALL_PAID = -5;
    private static final int NO_WEIGHTS = -6;
    private static final int WRONG_SUM = -7;

    private final Club[] clubs = new Club[MOST_CLUBS];
    private final Bill[] bills = new Bill[MOST_BILLS];
    private final Draft draft = new Draft();
    private final Grouping grouping = new Grouping();
    private int clubCount;
    private int billCount;

    public ExpenseClubs() {
    }

    public int club() {
        if (clubCount >= MOST_CLUBS) {
            return NONE;
        }
        clubs[clubCount] = new Club();
        clubCount++;
        return clubCount - 1;
    }

    public int member(int club) {
        Club c = clubAt(club);
        if (c == null || c.memberCount >= MOST_MEMBERS) {
            return NONE;
        }
        c.memberCount++;
        return c.memberCount - 1;
    }

    public boolean leave(int club, int member) {
        Club c = clubAt(club);
        if (c == null || !c.isPresent(member) || c.balances[member] != 0 || c.settlement.open) {
            return false;
        }
        c.goneSet |= 1 << member;
        return true;
    }

    public boolean bill(int club, int way, int cents, int rate) {
        Club c = clubAt(club);
        if (c == null || way < EVEN || way > LINES
                || cents < 1 || cents > MOST_CENTS || rate < 1 || rate > MOST_RATE) {
            return false;
        }
        draft.begin(c, way, cents, rate);
        return true;
    }

    public boolean payer(int member, int cents) {
        Club c = draft.club;
        if (c == null || !c.isPresent(member) || cents < 0 || cents > MOST_CENTS) {
            return false;
        }
        draft.payers[member] = cents;
        return true;
    }

    public boolean weight(int member, int n) {
        Club c = draft.club;
        if (c == null || draft.way == LINES || !c.isPresent(member)
                || n < 0 || n > mostWeight(draft.way)) {
            return false;
        }
        draft.weights[member] = n;
        return true;
    }

    public boolean line(int cents, int set) {
        Club c = draft.club;
        if (c == null || draft.way != LINES || cents < 1 || cents > MOST_CENTS
                || set == 0 || (set & ~c.presentSet()) != 0 || draft.lineCount >= MOST_LINES) {
            return false;
        }
        draft.addLine(cents, set);
        return true;
    }

    public int post() {
        Club c = draft.club;
        if (c == null) {
            return NO_DRAFT;
        }
        int refusal = refusalOfPost(c);
        if (refusal != FINE) {
            return refusal;
        }
        Bill b = draft.toBill(c);
        c.book(b, 1);
        draft.club = null;
        bills[billCount] = b;
        billCount++;
        return billCount - 1;
    }

    public boolean strike(int bill) {
        Bill b = billAt(bill);
        if (b == null || b.struck || b.owner.settlement.open) {
            return false;
        }
        b.struck = true;
        b.owner.book(b, -1);
        return true;
    }

    public long about(int bill, int member, int what) {
        Bill b = billAt(bill);
        if (b == null || what < 0 || what > 2) {
            return NONE;
        }
        if (member < 0 || member >= MOST_MEMBERS) {
            return 0;
        }
        if (what == 0) {
            return b.shares[member];
        }
        return what == 1 ? b.paid[member] : b.drifts[member];
    }

    public long total(int bill) {
        Bill b = billAt(bill);
        return b == null ? NONE : b.clubCents;
    }

    public long balance(int club, int member) {
        Club c = clubAt(club);
        return c == null || !c.isMember(member) ? 0 : c.balances[member];
    }

    public long drift(int club, int member) {
        Club c = clubAt(club);
        return c == null || !c.isMember(member) ? 0 : c.drifts[member];
    }

    public int settle(int club) {
        Club c = clubAt(club);
        if (c == null || c.settlement.open) {
            return NONE;
        }
        grouping.fill(c.settlement, c.balances);
        return c.settlement.transferCount;
    }

    public long transfer(int club, int i, int what) throws IndexOutOfBoundsException, IllegalArgumentException {
        Club c = clubAt(club);
        if (c == null || !c.settlement.hasTransfer(i)) {
            throw new IndexOutOfBoundsException("no such club, settlement or transfer");
        }
        switch (what) {
            case 0:
                return c.settlement.senders[i];
            case 1:
                return c.settlement.getters[i];
            case 2:
                return c.settlement.amounts[i];
            case 3:
                return c.settlement.ticked[i] ? 1 : 0;
            default:
                throw new IllegalArgumentException("what is not 0 .. 3");
        }
    }

    public boolean tick(int club, int i) {
        Club c = clubAt(club);
        if (c == null || !c.settlement.hasTransfer(i) || c.settlement.ticked[i]) {
            return false;
        }
        c.makeTransfer(i);
        return true;
    }

    public int giveUp(int club) {
        Club c = clubAt(club);
        if (c == null || !c.settlement.open) {
            return NONE;
        }
        c.settlement.open = false;
        return c.settlement.waiting;
    }

    public boolean close(int club) {
        Club c = clubAt(club);
        if (c == null || !c.settlement.open || c.settlement.waiting != 0) {
            return false;
        }
        c.settlement.open = false;
        return true;
    }

    public int count(int club, int what) {
        Club c = clubAt(club);
        if (c == null) {
            return NONE;
        }
        switch (what) {
            case 0:
                return c.memberCount;
            case 1:
                return c.settlement.open ? c.settlement.groupCount : NONE;
            case 2:
                return c.settlement.open ? c.settlement.waiting : NONE;
            case 3:
                return c.mark;
            default:
                return NONE;
        }
    }

    public int groupOf(int club, int member) {
        Club c = clubAt(club);
        if (c == null || !c.settlement.open || !c.isMember(member)) {
            return NONE;
        }
        return c.settlement.groups[member];
    }

    private Club clubAt(int number) {
        return number < 0 || number >= clubCount ? null : clubs[number];
    }

    private Bill billAt(int number) {
        return number < 0 || number >= billCount ? null : bills[number];
    }

    private int refusalOfPost(Club c) {
        if (c.settlement.open) {
            return SETTLEMENT_OPEN;
        }
        if (billCount >= MOST_BILLS) {
            return TOO_MANY_BILLS;
        }
        return draft.refusalFor(c);
    }

    private static int mostWeight(int way) {
        switch (way) {
            case EVEN:
                return 1;
            case PARTS:
                return MOST_PARTS;
            case EXACT:
                return MOST_CENTS;
            case PERCENT:
                return WHOLE_PERCENT;
            default:
                return 0;
        }
    }

    private static long sumOf(long[] row) {
        long sum = 0;
        for (int m = 0; m < MOST_MEMBERS; m++) {
            sum += row[m];
        }
        return sum;
    }

    /**
     * DIV(amount * weight, sum), for amounts below 2^60 and 0 <= weight <= sum < 2^42. The
     * product may outgrow a long, so the amount goes in by digits of 20 bits, as by hand.
     */
    private static long portion(long amount, long weight, long sum) {
        if (sum <= 0) {
            return 0;
        }
        long quotient = 0;
        long rest = 0;
        for (int shift = TOP_DIGIT; shift >= 0; shift -= DIGIT_BITS) {
            long digit = (amount >> shift) & DIGIT_MASK;
            long step = (rest << DIGIT_BITS) + digit * weight;
            quotient = (quotient << DIGIT_BITS) + step / sum;
            rest = step % sum;
        }
        return quotient;
    }

    /**
     * Cuts an amount into parts by weights and hands out the cents that are wanting from the
     * member start on; answers the number behind the last one who got such a cent, or start.
     */
    private static int cut(long amount, long[] weights, int start, long[] parts) {
        long sum = sumOf(weights);
        long wanting = amount;
        for (int m = 0; m < MOST_MEMBERS; m++) {
            parts[m] = portion(amount, weights[m], sum);
            wanting -= parts[m];
        }
        int behind = start;
        // Each part with a weight lacks less than a cent, so one round hands out all of them.
        for (int k = 0; k < MOST_MEMBERS; k++) {
            int m = (start + k) % MOST_MEMBERS;
            if (wanting > 0 && weights[m] > 0) {
                parts[m]++;
                wanting--;
                behind = (m + 1) % MOST_MEMBERS;
            }
        }
        return behind;
    }

    private static final class Club {
        final long[] balances = new long[MOST_MEMBERS];
        final long[] drifts = new long[MOST_MEMBERS];
        final Settlement settlement = new Settlement();
        int memberCount;
        int goneSet;
        int mark;

        boolean isMember(int member) {
            return member >= 0 && member < memberCount;
        }

        boolean isPresent(int member) {
            return isMember(member) && !isGone(member);
        }

        boolean isGone(int member) {
            return (goneSet >> member & 1) != 0;
        }

        int presentSet() {
            return ((1 << memberCount) - 1) & ~goneSet;
        }

        /** Adds a bill to the balances and drifts (times 1), or takes it away (times -1). */
        void book(Bill b, int times) {
            for (int m = 0; m < MOST_MEMBERS; m++) {
                balances[m] += times * (b.paid[m] - b.shares[m]);
                drifts[m] += times * b.drifts[m];
            }
        }

        void makeTransfer(int i) {
            settlement.ticked[i] = true;
            settlement.waiting--;
            balances[settlement.senders[i]] += settlement.amounts[i];
            balances[settlement.getters[i]] -= settlement.amounts[i];
        }
    }

    private static final class Bill {
        final Club owner;
        final long clubCents;
        final long[] paid = new long[MOST_MEMBERS];
        final long[] shares = new long[MOST_MEMBERS];
        final long[] drifts = new long[MOST_MEMBERS];
        boolean struck;

        Bill(Club owner, long clubCents) {
            this.owner = owner;
            this.clubCents = clubCents;
        }
    }

    /** The bill that is put together; there is none while its club is null. */
    private static final class Draft {
        final long[] payers = new long[MOST_MEMBERS];
        final long[] weights = new long[MOST_MEMBERS];
        Club club;
        int way;
        int cents;
        int rate;
        int lineCount;

        void begin(Club ofClub, int byWay, int ofCents, int atRate) {
            club = ofClub;
            way = byWay;
            cents = ofCents;
            rate = atRate;
            lineCount = 0;
            for (int m = 0; m < MOST_MEMBERS; m++) {
                payers[m] = 0;
                weights[m] = 0;
            }
        }

        void addLine(int lineCents, int set) {
            int size = Integer.bitCount(set);
            if (size == 0) {
                return;
            }
            long each = (long) (LINE_UNITS / size) * lineCents;
            for (int m = 0; m < MOST_MEMBERS; m++) {
                if ((set >> m & 1) != 0) {
                    weights[m] += each;
                }
            }
            lineCount++;
        }

        int refusalFor(Club c) {
            for (int m = 0; m < MOST_MEMBERS; m++) {
                if (c.isGone(m) && (payers[m] > 0 || weights[m] > 0)) {
                    return SOMEONE_LEFT;
                }
            }
            if (sumOf(payers) != cents) {
                return NOT_ALL_PAID;
            }
            long sum = sumOf(weights);
            if (sum == 0) {
                return NO_WEIGHTS;
            }
            return sum == dueSum(sum) ? FINE : WRONG_SUM;
        }

        /** What the weights must sum up to; for ways that ask for no sum, the one they have. */
        private long dueSum(long sum) {
            switch (way) {
                case EXACT:
                    return cents;
                case PERCENT:
                    return WHOLE_PERCENT;
                case LINES:
                    return (long) LINE_UNITS * cents;
                default:
                    return sum;
            }
        }

        Bill toBill(Club c) {
            Bill b = new Bill(c, ((long) cents * rate + MILLION / 2) / MILLION);
            cut(b.clubCents, payers, 0, b.paid);
            c.mark = cut(b.clubCents, weights, c.mark, b.shares);
            long sum = sumOf(weights);
            for (int m = 0; m < MOST_MEMBERS; m++) {
                long fair = portion(DRIFT_UNITS * b.clubCents, weights[m], sum);
                b.drifts[m] = DRIFT_UNITS * b.shares[m] - fair;
            }
            return b;
        }
    }

    /** A club has one of these, used again for each of its settlements. */
    private static final class Settlement {
        final int[] groups = new int[MOST_MEMBERS];
        final int[] senders = new int[MOST_MEMBERS];
        final int[] getters = new int[MOST_MEMBERS];
        final long[] amounts = new long[MOST_MEMBERS];
        final boolean[] ticked = new boolean[MOST_MEMBERS];
        boolean open;
        int groupCount;
        int transferCount;
        int waiting;

        void begin() {
            open = true;
            groupCount = 0;
            transferCount = 0;
            waiting = 0;
            for (int m = 0; m < MOST_MEMBERS; m++) {
                groups[m] = NONE;
            }
        }

        boolean hasTransfer(int i) {
            return open && i >= 0 && i < transferCount;
        }

        /** The transfer between the neighbours a and b, sum being owed to a and those before it. */
        void addTransfer(int a, int b, long sum) {
            if (transferCount >= MOST_MEMBERS) {
                return;
            }
            senders[transferCount] = sum < 0 ? a : b;
            getters[transferCount] = sum < 0 ? b : a;
            amounts[transferCount] = sum < 0 ? -sum : sum;
            ticked[transferCount] = false;
            transferCount++;
            waiting++;
        }
    }

    /**
     * Divides members into groups. Its sets have bit i for the i-th member whose balance is not
     * 0: leaving out the others keeps the order of sets as numbers and makes them fewer.
     */
    private static final class Grouping {
        private final int[] members = new int[MOST_MEMBERS];
        private final long[] amounts = new long[MOST_MEMBERS];
        private final int[] most = new int[1 << MOST_MEMBERS];
        private int size;

        void fill(Settlement s, long[] balances) {
            gather(balances);
            countMost();
            s.begin();
            int left = (1 << size) - 1;
            for (int g = 0; g < MOST_MEMBERS && left != 0; g++) {
                int set = firstGroup(left);
                addGroup(s, set);
                left &= ~set;
            }
        }

        private void gather(long[] balances) {
            size = 0;
            for (int m = 0; m < MOST_MEMBERS; m++) {
                if (balances[m] != 0) {
                    members[size] = m;
                    amounts[size] = balances[m];
                    size++;
                }
            }
        }

        /**
         * Finds for each set the most parts of it that sum up to 0 when its members come one by
         * one, a part ending wherever the sum of all so far is 0. Of a set that itself sums up
         * to 0 these parts are its groups.
         */
        private void countMost() {
            most[0] = 0;
            for (int set = 1; set < (1 << size); set++) {
                long sum = 0;
                int highest = 0;
                for (int i = 0; i < size; i++) {
                    if ((set >> i & 1) != 0) {
                        sum += amounts[i];
                        highest = Math.max(highest, most[set ^ (1 << i)]);
                    }
                }
                most[set] = sum == 0 ? highest + 1 : highest;
            }
        }

        /** The least group of the lowest one in left that still lets left have the most groups. */
        private int firstGroup(int left) {
            int lowest = left & -left;
            for (int set = lowest; set < left; set++) {
                if ((set & lowest) != 0 && (set & ~left) == 0
                        && most[left ^ set] == most[left] - 1 && sumOfSet(set) == 0) {
                    return set;
                }
            }
            return left;
        }

        private long sumOfSet(int set) {
            long sum = 0;
            for (int i = 0; i < size; i++) {
                if ((set >> i & 1) != 0) {
                    sum += amounts[i];
                }
            }
            return sum;
        }

        private void addGroup(Settlement s, int set) {
            long sum = 0;
            int before = NONE;
            for (int i = 0; i < size; i++) {
                if ((set >> i & 1) != 0) {
                    if (before != NONE) {
                        s.addTransfer(before, members[i], sum);
                    }
                    s.groups[members[i]] = s.groupCount;
                    before = members[i];
                    sum += amounts[i];
                }
            }
            s.groupCount++;
        }
    }
}
