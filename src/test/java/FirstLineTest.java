import java.util.Arrays;

/** What the document says before its promises: of bills, of settlements, of 512 calls, of memory. */
public final class FirstLineTest {
    private static final int WAYS = 5;
    private static final int MOST_CALLS = 512;

    private static long seed = 20261116;

    public static void main(String[] args) {
        sharedToTheLastCent();
        clearedByTheFewestOfFive();
        clearedByTheFewestOfSix();
        fiveHundredAndTwelveCalls();
        memoryOfItsOwn();
        Due.end();
    }

    private static int below(int n) {
        seed = seed * 6364136223846793005L + 1442695040888963407L;
        return (int) ((seed >>> 33) % n);
    }

    /** Weights of the first so many members that sum up to what the way asks for. */
    private static void weigh(ExpenseClubs x, int way, int cents, int members) {
        if (way <= 2) {
            for (int m = 0; m < members; m++) {
                Due.yes("weight", x.weight(m, way == 1 ? 1 : 1 + below(1000)));
            }
            return;
        }
        int rest = way == 4 ? 10000 : cents;
        for (int m = 0; m < members && rest > 0; m++) {
            int part = m == members - 1 ? rest : 1 + below(rest);
            Due.yes("weight", way == 5 ? x.line(part, 1 + below((1 << members) - 1)) : x.weight(m, part));
            rest -= part;
        }
    }

    // "Bills that members of clubs share in five ways, in any currency, to the last cent"
    private static void sharedToTheLastCent() {
        int[] centsOf = {1, 2, 11, 100, 9999, 12345678, Scene.MOST_CENTS};
        int[] rates = {1, 7, 500000, 999999, 1000000, 1085000, 163456789, Scene.MOST_RATE};
        for (int cents : centsOf) {
            for (int rate : rates) {
                for (int way = 1; way <= WAYS; way++) {
                    sharedToTheLastCent(way, cents, rate, 1 + below(12));
                }
            }
        }
    }

    private static void sharedToTheLastCent(int way, int cents, int rate, int members) {
        ExpenseClubs x = Due.clubOf(members);
        x.bill(0, way, cents, rate);
        int first = members == 1 ? cents : below(cents + 1);
        x.payer(members - 1, cents - first);
        x.payer(0, first);
        weigh(x, way, cents, members);
        String of = " of " + cents + " cents at " + rate + " by way " + way;
        Due.same("post()" + of, x.post(), 0);
        long shares = 0;
        long paid = 0;
        long balances = 0;
        for (int m = 0; m < members; m++) {
            shares += x.about(0, m, 0);
            paid += x.about(0, m, 1);
            balances += x.balance(0, m);
        }
        Due.same("the shares" + of, shares, x.total(0));
        Due.same("what is paid" + of, paid, x.total(0));
        Due.same("the balances" + of, balances, 0);
    }

    /** Whether transfers between such pairs can clear the balances; pair k is bit k. */
    private static boolean canClear(int[] balances, int pairs) {
        int n = balances.length;
        int[] part = new int[n];
        for (int m = 0; m < n; m++) {
            part[m] = m;
        }
        int k = 0;
        for (int a = 0; a < n; a++) {
            for (int b = a + 1; b < n; b++, k++) {
                if ((pairs >> k & 1) != 0) {
                    join(part, part[a], part[b]);
                }
            }
        }
        // Money moves only among those whom pairs join, and there it can go from each to each.
        int[] sums = new int[n];
        for (int m = 0; m < n; m++) {
            sums[part[m]] += balances[m];
        }
        for (int sum : sums) {
            if (sum != 0) {
                return false;
            }
        }
        return true;
    }

    private static void join(int[] part, int into, int from) {
        for (int m = 0; m < part.length; m++) {
            part[m] = part[m] == from ? into : part[m];
        }
    }

    private static int fewest(int[] balances) {
        int n = balances.length;
        int best = n;
        for (int pairs = 0; pairs < 1 << (n * (n - 1) / 2); pairs++) {
            if (Integer.bitCount(pairs) < best && canClear(balances, pairs)) {
                best = Integer.bitCount(pairs);
            }
        }
        return best;
    }

    private static void clearedByTheFewest(int[] balances) {
        ExpenseClubs x = Due.balances(balances);
        String of = " of " + Arrays.toString(balances);
        Due.balancesAre(x, Arrays.stream(balances).asLongStream().toArray());
        int transfers = x.settle(0);
        Due.same("the transfers" + of, transfers, fewest(balances));
        for (int i = 0; i < transfers; i++) {
            Due.yes("tick" + of, x.tick(0, i));
        }
        Due.balancesAre(x, 0, 0, 0, 0, 0, 0, 0, 0, 0, 0, 0, 0);
        Due.yes("close" + of, x.close(0));
    }

    // "settlements that clear all balances by the fewest transfers"
    private static void clearedByTheFewestOfFive() {
        for (int k = 0; k < 7 * 7 * 7 * 7; k++) {
            int[] balances = {k % 7 - 3, k / 7 % 7 - 3, k / 49 % 7 - 3, k / 343 - 3, 0};
            balances[4] = -balances[0] - balances[1] - balances[2] - balances[3];
            clearedByTheFewest(balances);
        }
    }

    private static void clearedByTheFewestOfSix() {
        for (int run = 0; run < 150; run++) {
            int[] balances = new int[6];
            int most = 1 + below(6);
            for (int m = 0; m < 5; m++) {
                balances[m] = below(2 * most + 1) - most;
                balances[5] -= balances[m];
            }
            clearedByTheFewest(balances);
        }
    }

    // "An object is used for at most 512 calls after it has been made": the last ones are as good as the first
    private static void fiveHundredAndTwelveCalls() {
        ExpenseClubs x = new ExpenseClubs();
        int calls = 0;
        for (int c = 0; c < 4; c++, calls++) {
            Due.same("club()", x.club(), c);
        }
        for (int k = 0; k < 48; k++, calls++) {
            Due.same("member(" + k % 4 + ")", x.member(k % 4), k / 4);
        }
        // Each of the 64 bills costs its payer 1 of 3 cents, and two others as much.
        for (int b = 0; b < 64; b++, calls += 6) {
            Due.yes("bill", x.bill(b % 4, 1, 3, Due.PAR));
            Due.yes("payer", x.payer(0, 3));
            Due.yes("weight", x.weight(0, 1));
            Due.yes("weight", x.weight(5, 1));
            Due.yes("weight", x.weight(11, 1));
            Due.same("post()", x.post(), b);
        }
        for (int c = 0; c < 4; c++, calls += 5) {
            Due.same("settle(" + c + ")", x.settle(c), 2);
            Due.yes("tick(" + c + ", 1)", x.tick(c, 1));
            Due.yes("tick(" + c + ", 0)", x.tick(c, 0));
            Due.same("balance(" + c + ", 5)", x.balance(c, 5), 0);
            Due.yes("close(" + c + ")", x.close(c));
        }
        int bill = 0;
        while (calls < MOST_CALLS - 4) {
            Due.yes("strike(" + bill + ")", x.strike(bill));
            bill++;
            calls++;
        }
        // 52 bills were struck, 13 of each club: 0 owes 26, by way of 5, who is to get 13, as 11 is.
        Due.same("balance(0, 0)", x.balance(0, 0), -26);
        Due.same("settle(0)", x.settle(0), 2);
        Due.transfer(x, 0, 1, 5);
        Due.same("groupOf(0, 11)", x.groupOf(0, 11), 0);
        Due.same("struck bills", bill, 52);
    }

    // "All memory is its own."
    private static void memoryOfItsOwn() {
        ExpenseClubs[] objects = new ExpenseClubs[5];
        for (int k = 0; k < objects.length; k++) {
            objects[k] = new ExpenseClubs();
        }
        // Every step is made on all objects in turn, with other numbers on each.
        for (int step = 0; step < 8; step++) {
            for (int k = 0; k < objects.length; k++) {
                stepOf(objects[k], step, k);
            }
        }
        for (int k = 0; k < objects.length; k++) {
            ExpenseClubs alone = new ExpenseClubs();
            for (int step = 0; step < 8; step++) {
                stepOf(alone, step, k);
            }
            Due.yes("object " + k + " among others is as it is alone", Seen.of(objects[k]).equals(Seen.of(alone)));
        }
    }

    private static void stepOf(ExpenseClubs x, int step, int k) {
        switch (step) {
            case 0:
                x.club();
                Scene.members(x, 0, 3 + k);
                break;
            case 1: case 4:
                Scene.evenDraft(x, 0, 10 * step + k, (1 << (2 + k)) - 1);
                break;
            case 2: case 5:
                Due.yes("post()", x.post() >= 0);
                break;
            case 3:
                x.leave(0, 2 + k);
                x.settle(0);
                x.tick(0, k / 2);
                x.giveUp(0);
                break;
            case 6:
                x.settle(0);
                x.tick(0, 0);
                break;
            default:
                x.bill(0, 1 + k, 5, 1000000 + k);
        }
    }
}
