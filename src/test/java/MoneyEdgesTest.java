/** Promises 18 to 22, with the balances of Terms, at their edges: each method holds one sentence. */
public final class MoneyEdgesTest {
    private static final int NONE = DepositCodes.NONE;
    private static final int MIN = Integer.MIN_VALUE;
    private static final int MAX = Integer.MAX_VALUE;
    private static final long MONTH = 2592000L;
    private static final long LAST_SECOND = 100000000000L;

    public static void main(String[] args) {
        promise18NoSuchMachine();
        promise18NoPower();
        promise18NothingPaidSince();
        promise18OnlyWhatItPaid();
        promise18NumbersOverAllMachines();
        promise18AsManyCouponsAsPayments();
        promise18OneCouponForAll200();
        promise19NoSuchCoupon();
        promise19NoSuchShop();
        promise19RedeemedAlready();
        promise20NoSuchShop();
        promise20NothingAndAllOfIt();
        promise21MonthsAre0To40000();
        promise21SystemsWhoseBalanceIsNot0();
        termsAMonthIsASecondOver2592000();
        termsTheSystemOfAMachine();
        termsTheSystemOfASerial();
        termsEachSerialThatWasPaid();
        promise22SystemsAre0To2();
        promise22BeforeOneWas();
        promise22TheMonthClearedLatest();
        promise22AsItWasThen();
        promise22ARefusedClearLeavesIt();
        Due.end("MoneyEdgesTest");
    }

    private static void promise18NoSuchMachine() {
        for (int made = 0; made <= 6; made++) {
            DepositCodes x = Start.made(made);
            for (int machine = 0; machine < made; machine++) {
                give(x, machine, 1, 0);
            }
            int[] wrong = {MIN, MIN + 1, -1, made, 6, 7, 65536, MAX - 1, MAX};
            for (int machine : wrong) {
                Due.due("coupon(" + machine + ")", x.coupon(machine), NONE);
            }
            for (int machine = 0; machine < made; machine++) {
                Due.due("coupon(" + machine + ")", x.coupon(machine), machine);
            }
        }
    }

    private static void promise18NoPower() {
        DepositCodes x = Start.made(2);
        give(x, 0, 1, 0);
        give(x, 1, 1, 0);
        x.power(0, false);
        Due.due("coupon(0) without power", x.coupon(0), NONE);
        Due.due("coupon(0) without power again", x.coupon(0), NONE);
        Due.due("coupon(1) with power", x.coupon(1), 0);
        x.power(0, true);
        Due.due("coupon(0) with power again", x.coupon(0), 1);
        dueWorth(x, 1, 0, 25);
        x.power(0, false);
        Due.due("coupon(0) of nothing without power", x.coupon(0), NONE);
        x.power(0, true);
        give(x, 0, 2, 0);
        x.full(0, true);
        Due.due("coupon(0) of a full one", x.coupon(0), 2);
    }

    private static void promise18NothingPaidSince() {
        DepositCodes x = Start.made(2);
        Due.due("coupon(0) at first", x.coupon(0), NONE);
        x.give(0, Start.serial(1), 0, 10, 0);
        x.give(0, Start.serial(1) + 1, 0, 0, 0);
        x.give(0, Start.serial(1), 0, 0, -1);
        Due.due("coupon(0) after refused ones", x.coupon(0), NONE);
        give(x, 0, 1, 0);
        Due.due("coupon(0) for one", x.coupon(0), 0);
        Due.due("coupon(0) again", x.coupon(0), NONE);
        x.give(0, Start.serial(1), 0, 0, 0);
        Due.due("coupon(0) after a refused one", x.coupon(0), NONE);
        give(x, 1, 1, 0);
        Due.due("join(0, 1)", x.join(0, 1), 1);
        Due.due("coupon(0) after the other paid", x.coupon(0), NONE);
        Due.due("coupon(1)", x.coupon(1), 1);
        give(x, 0, 2, 0);
        Due.due("coupon(0) for one more", x.coupon(0), 2);
        dueWorth(x, 2, 5, 25);
    }

    private static void promise18OnlyWhatItPaid() {
        DepositCodes x = Start.made(3);
        x.shape(7, 0, 9);
        for (int k = 0; k < 9; k++) {
            give(x, k % 2, k, k * MONTH);
        }
        x.give(1, Start.serial(50), 7, 0, 0);
        x.give(1, Start.serial(50), 0, 0, 0);
        Due.due("coupon(2)", x.coupon(2), NONE);
        Due.due("coupon(1)", x.coupon(1), 0);
        Due.due("coupon(0)", x.coupon(0), 1);
        dueWorth(x, 0, 0, 125);
        dueWorth(x, 1, 1, 125);
        give(x, 0, 60, 0);
        give(x, 0, 61, 0);
        Due.due("coupon(0) for two more", x.coupon(0), 2);
        dueWorth(x, 2, 2, 50);
    }

    private static void promise18NumbersOverAllMachines() {
        DepositCodes x = Start.made(6);
        for (int k = 0; k < 30; k++) {
            int machine = k * 5 % 6;
            Due.due("coupon for nothing", x.coupon(machine), NONE);
            give(x, machine, k, 0);
            Due.due("coupon(" + machine + ")", x.coupon(machine), k);
        }
    }

    private static void promise18AsManyCouponsAsPayments() {
        DepositCodes x = Start.made(1);
        for (int k = 0; k < 200; k++) {
            give(x, 0, k, 0);
            Due.due("coupon " + k, x.coupon(0), k);
        }
        Due.due("coupon of a 201st", x.coupon(0), NONE);
        Due.due("redeem(200, 0)", x.redeem(200, 0), false);
        Due.due("redeem(199, 0)", x.redeem(199, 0), true);
        Due.due("redeem(0, 0)", x.redeem(0, 0), true);
        Due.due("shop(0)", x.shop(0), 50);
    }

    private static void promise18OneCouponForAll200() {
        DepositCodes x = Start.made(1);
        for (int k = 0; k < 200; k++) {
            give(x, 0, k, 0);
        }
        Due.due("give of a 201st", x.give(0, Start.serial(200), 0, 0, 0), NONE);
        Due.due("coupon(0)", x.coupon(0), 0);
        dueWorth(x, 0, 99, 5000);
    }

    private static void promise19NoSuchCoupon() {
        DepositCodes x = Start.made(1);
        for (int printed = 0; printed < 4; printed++) {
            int[] wrong = {MIN, MIN + 1, -1, printed, printed + 1, 200, 65536, MAX - 1, MAX};
            for (int coupon : wrong) {
                Due.due("redeem(" + coupon + ", 0)", x.redeem(coupon, 0), false);
                Due.due("redeem(" + coupon + ", 99)", x.redeem(coupon, 99), false);
            }
            Due.due("shop(0)", x.shop(0), 25L * printed);
            Due.due("shop(99)", x.shop(99), 0);
            give(x, 0, printed, 0);
            Due.due("redeem before it is printed", x.redeem(printed, 0), false);
            x.coupon(0);
            Due.due("redeem(" + printed + ", 0)", x.redeem(printed, 0), true);
        }
    }

    private static void promise19NoSuchShop() {
        int[] wrong = {MIN, MIN + 1, -100, -1, 100, 101, 65536, MAX - 1, MAX};
        int[] right = {0, 1, 98, 99};
        DepositCodes x = Start.made(1);
        for (int k = 0; k < right.length; k++) {
            give(x, 0, k, 0);
            x.coupon(0);
            for (int shop : wrong) {
                Due.due("redeem(" + k + ", " + shop + ")", x.redeem(k, shop), false);
            }
            Due.due("shop(" + right[k] + ") before", x.shop(right[k]), 0);
            dueWorth(x, k, right[k], 25);
        }
        for (int shop = 0; shop < 100; shop++) {
            boolean one = shop < 2 || shop > 97;
            Due.due("shop(" + shop + ")", x.shop(shop), one ? 25 : 0);
        }
    }

    private static void promise19RedeemedAlready() {
        DepositCodes x = Start.made(1);
        for (int k = 0; k < 3; k++) {
            give(x, 0, k, 0);
            x.coupon(0);
        }
        Due.due("redeem(1, 7)", x.redeem(1, 7), true);
        for (int shop = 0; shop < 100; shop++) {
            Due.due("redeem(1, " + shop + ") again", x.redeem(1, shop), false);
        }
        Due.due("shop(7)", x.shop(7), 25);
        Due.due("shop(8)", x.shop(8), 0);
        Due.due("redeem(0, 7)", x.redeem(0, 7), true);
        Due.due("redeem(2, 7)", x.redeem(2, 7), true);
        Due.due("shop(7) of three", x.shop(7), 75);
        Due.due("redeem(0, 8) again", x.redeem(0, 8), false);
        Due.due("redeem(2, 8) again", x.redeem(2, 8), false);
        Due.due("shop(8)", x.shop(8), 0);
    }

    private static void promise20NoSuchShop() {
        DepositCodes x = Start.made(1);
        int[] wrong = {MIN, MIN + 1, -100, -1, 100, 101, 65536, MAX - 1, MAX};
        for (int shop : wrong) {
            Due.due("shop(" + shop + ")", x.shop(shop), NONE);
        }
        Due.due("shop(0)", x.shop(0), 0);
        Due.due("shop(99)", x.shop(99), 0);
    }

    private static void promise20NothingAndAllOfIt() {
        DepositCodes x = Start.made(6);
        for (int shop = 0; shop < 100; shop++) {
            Due.due("shop(" + shop + ") at first", x.shop(shop), 0);
        }
        for (int k = 0; k < 200; k++) {
            give(x, k % 6, k, 0);
        }
        long[] worth = {850, 850, 825, 825, 825, 825};
        long sum = 0;
        for (int machine = 0; machine < 6; machine++) {
            Due.due("shop(50) before", x.shop(50), sum);
            Due.due("coupon(" + machine + ")", x.coupon(machine), machine);
            Due.due("redeem(" + machine + ", 50)", x.redeem(machine, 50), true);
            sum += worth[machine];
            Due.due("shop(50)", x.shop(50), sum);
        }
        Due.due("shop(50) of all", x.shop(50), 5000);
        Due.due("shop(49)", x.shop(49), 0);
        Due.due("shop(51)", x.shop(51), 0);
    }

    private static void promise21MonthsAre0To40000() {
        DepositCodes x = Start.made(1);
        give(x, 0, 1, 0);
        int[] wrong = {MIN, MIN + 1, -40000, -1, 40001, 40002, 65536, MAX - 1, MAX};
        for (int month : wrong) {
            Due.due("clear(" + month + ")", x.clear(month), NONE);
        }
        Due.due("clear(40000)", x.clear(40000), 0);
        Due.due("clear(39999)", x.clear(39999), 0);
        Due.due("clear(1)", x.clear(1), 0);
        Due.due("clear(0)", x.clear(0), 2);
    }

    private static void promise21SystemsWhoseBalanceIsNot0() {
        DepositCodes x = Start.made(3);
        Due.due("clear(0) with nothing paid", x.clear(0), 0);
        dueCleared(x, 0, 0, 0);
        give(x, 0, 0, 0);
        Due.due("clear(0) with what is its own", x.clear(0), 0);
        dueCleared(x, 0, 0, 0);
        give(x, 0, 1, 0);
        Due.due("clear(0) with one of another", x.clear(0), 2);
        dueCleared(x, -25, 25, 0);
        give(x, 0, 2, 0);
        Due.due("clear(0) with two of others", x.clear(0), 3);
        dueCleared(x, -50, 25, 25);
        give(x, 1, 30, 0);
        Due.due("clear(0) with one that evens 1", x.clear(0), 2);
        dueCleared(x, -25, 0, 25);
        give(x, 2, 60, 0);
        Due.due("clear(0) with one that evens all", x.clear(0), 0);
        dueCleared(x, 0, 0, 0);
    }

    private static void termsAMonthIsASecondOver2592000() {
        long[] months = {0, 1, 2, 828, 829, 1656, 1657, 38579, 38580};
        for (long month : months) {
            long last = Math.min((month + 1) * MONTH - 1, LAST_SECOND);
            DepositCodes x = Start.made(1);
            give(x, 0, 1, month * MONTH);
            give(x, 0, 2, last);
            Due.due("clear(" + month + ")", x.clear((int) month), 3);
            dueCleared(x, -50, 25, 25);
            Due.due("clear of the next month", x.clear((int) month + 1), 0);
            Due.due("clear of the month before", x.clear((int) month - 1), month == 0 ? NONE : 0);
            if (month > 0) {
                give(x, 0, 4, month * MONTH - 1);
                Due.due("clear of the month before", x.clear((int) month - 1), 2);
                dueCleared(x, -25, 25, 0);
            }
            if (last < LAST_SECOND) {
                give(x, 0, 5, last + 1);
                Due.due("clear of the next month", x.clear((int) month + 1), 2);
                dueCleared(x, -25, 0, 25);
            }
        }
    }

    private static void termsTheSystemOfAMachine() {
        long[][] due = {{0, 0, 0}, {25, -25, 0}, {25, 0, -25}};
        for (int machine = 0; machine < 6; machine++) {
            DepositCodes x = Start.made(6);
            give(x, machine, 0, 0);
            Due.due("clear(0) of machine " + machine, x.clear(0), machine % 3 == 0 ? 0 : 2);
            dueCleared(x, due[machine % 3][0], due[machine % 3][1], due[machine % 3][2]);
        }
    }

    private static void termsTheSystemOfASerial() {
        int[] systems = {0, 1, 2, 0, 1, 2, 0, 1, 2, 0};
        long[] heads = {0, 1, 5, 9, 21474836, 4294967295L, 9999999999999999L};
        for (long head : heads) {
            for (int decimal = 0; decimal < 10; decimal++) {
                DepositCodes x = Start.made(1);
                give(x, 0, 10 * head + decimal, 0);
                int system = systems[decimal];
                Due.due("clear(0) of " + head + " and " + decimal, x.clear(0), system == 0 ? 0 : 2);
                dueCleared(x, system == 0 ? 0 : -25, system == 1 ? 25 : 0, system == 2 ? 25 : 0);
            }
        }
        // The only good serial of one decimal is 0.
        DepositCodes x = Start.made(2);
        Due.due("give of 0", x.give(1, 0, 0, 0, 0), 1);
        Due.due("clear(0)", x.clear(0), 2);
        dueCleared(x, 25, -25, 0);
    }

    private static void termsEachSerialThatWasPaid() {
        DepositCodes x = Start.made(1);
        for (int k = 0; k < 200; k++) {
            give(x, 0, 10 * k + 1, 7 * MONTH + k);
        }
        Due.due("clear(7) of all 200", x.clear(7), 2);
        dueCleared(x, -5000, 5000, 0);
        DepositCodes y = Start.made(2);
        give(y, 0, 1, 0);
        y.give(0, Start.serial(1), 0, 0, 0);
        y.give(0, Start.serial(2), 0, 10, 0);
        y.give(0, Start.serial(2), 0, 0, -1);
        Due.due("clear(0) with refused ones", y.clear(0), 2);
        dueCleared(y, -25, 25, 0);
        give(y, 1, 1, 0);
        Due.due("join(1, 0)", y.join(1, 0), 1);
        Due.due("clear(0) with a double", y.clear(0), 2);
        dueCleared(y, -25, 25, 0);
    }

    private static void promise22SystemsAre0To2() {
        DepositCodes x = Start.made(1);
        give(x, 0, 1, 0);
        give(x, 0, 2, 0);
        x.clear(0);
        int[] wrong = {MIN, MIN + 1, -3, -1, 3, 4, 65536, MAX - 1, MAX};
        for (int system : wrong) {
            Due.due("cleared(" + system + ")", x.cleared(system), 0);
        }
        dueCleared(x, -50, 25, 25);
    }

    private static void promise22BeforeOneWas() {
        DepositCodes x = Start.made(1);
        dueCleared(x, 0, 0, 0);
        give(x, 0, 1, 0);
        dueCleared(x, 0, 0, 0);
        Due.due("clear(-1)", x.clear(-1), NONE);
        Due.due("clear(40001)", x.clear(40001), NONE);
        dueCleared(x, 0, 0, 0);
    }

    private static void promise22TheMonthClearedLatest() {
        DepositCodes x = Start.made(1);
        give(x, 0, 1, 0);
        give(x, 0, 2, MONTH);
        x.clear(0);
        dueCleared(x, -25, 25, 0);
        x.clear(1);
        dueCleared(x, -25, 0, 25);
        x.clear(0);
        dueCleared(x, -25, 25, 0);
        x.clear(2);
        dueCleared(x, 0, 0, 0);
        x.clear(1);
        dueCleared(x, -25, 0, 25);
        x.clear(40000);
        dueCleared(x, 0, 0, 0);
    }

    private static void promise22AsItWasThen() {
        DepositCodes x = Start.made(2);
        x.clear(0);
        give(x, 0, 1, 0);
        dueCleared(x, 0, 0, 0);
        x.clear(0);
        give(x, 0, 2, 0);
        give(x, 1, 1, 0);
        x.join(0, 1);
        x.coupon(0);
        dueCleared(x, -25, 25, 0);
        x.clear(0);
        dueCleared(x, -50, 25, 25);
    }

    private static void promise22ARefusedClearLeavesIt() {
        DepositCodes x = Start.made(1);
        give(x, 0, 1, 0);
        x.clear(0);
        int[] wrong = {MIN, -1, 40001, MAX};
        for (int month : wrong) {
            Due.due("clear(" + month + ")", x.clear(month), NONE);
            dueCleared(x, -25, 25, 0);
        }
    }

    private static void dueWorth(DepositCodes x, int coupon, int shop, long worth) {
        long before = x.shop(shop);
        Due.due("redeem(" + coupon + ", " + shop + ")", x.redeem(coupon, shop), true);
        Due.due("what coupon " + coupon + " adds to shop " + shop, x.shop(shop) - before, worth);
    }

    private static void dueCleared(DepositCodes x, long a, long b, long c) {
        Due.due("cleared(0)", x.cleared(0), a);
        Due.due("cleared(1)", x.cleared(1), b);
        Due.due("cleared(2)", x.cleared(2), c);
    }

    private static void give(DepositCodes x, int machine, long stem, long second) {
        Due.due("give(" + machine + ", " + stem + ")", x.give(machine, Start.serial(stem), 0, 0, second), 1);
    }
}
