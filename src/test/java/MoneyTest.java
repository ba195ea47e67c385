/** Promises 18 to 22: coupons, shops, clearing. */
public final class MoneyTest {
    private static final int NONE = DepositCodes.NONE;
    private static final long MONTH = 2592000L;

    public static void main(String[] args) {
        couponsTellWhatWasPaidSince();
        couponsWantAMachineWithPower();
        aDoubleKeepsItsCoupon();
        redeemingOnce();
        manyCoupons();
        balancesOfAMonth();
        monthsHaveEdges();
        systemsOfSerials();
        clearedIsAsItWasThen();
        Due.end("MoneyTest");
    }

    private static void couponsTellWhatWasPaidSince() {
        DepositCodes x = Start.made(2);
        Due.due("coupon(0) for nothing", x.coupon(0), NONE);
        give(x, 0, 1, 0);
        give(x, 0, 2, 0);
        give(x, 1, 3, 0);
        x.give(0, Start.serial(1), 0, 0, 0);
        Due.due("coupon(1)", x.coupon(1), 0);
        Due.due("coupon(0)", x.coupon(0), 1);
        Due.due("coupon(0) again", x.coupon(0), NONE);
        give(x, 0, 4, 0);
        Due.due("coupon(0) for one more", x.coupon(0), 2);
        Due.due("redeem(0, 0)", x.redeem(0, 0), true);
        Due.due("redeem(1, 1)", x.redeem(1, 1), true);
        Due.due("redeem(2, 2)", x.redeem(2, 2), true);
        Due.due("shop(0)", x.shop(0), 25);
        Due.due("shop(1)", x.shop(1), 50);
        Due.due("shop(2)", x.shop(2), 25);
    }

    private static void couponsWantAMachineWithPower() {
        DepositCodes x = new DepositCodes();
        Due.due("coupon(0) without machines", x.coupon(0), NONE);
        x = Start.made(1);
        give(x, 0, 1, 0);
        Due.due("coupon(1)", x.coupon(1), NONE);
        Due.due("coupon(-1)", x.coupon(-1), NONE);
        Due.due("coupon(MAX)", x.coupon(Integer.MAX_VALUE), NONE);
        x.power(0, false);
        Due.due("coupon(0) without power", x.coupon(0), NONE);
        x.power(0, true);
        give(x, 0, 2, 0);
        x.full(0, true);
        Due.due("coupon(0) of a full one", x.coupon(0), 0);
        x.redeem(0, 99);
        Due.due("shop(99)", x.shop(99), 50);
    }

    private static void aDoubleKeepsItsCoupon() {
        DepositCodes x = Start.made(2);
        give(x, 0, 1, 0);
        give(x, 1, 1, 0);
        x.join(0, 1);
        Due.due("coupon(1)", x.coupon(1), 0);
        Due.due("coupon(0)", x.coupon(0), 1);
    }

    private static void redeemingOnce() {
        DepositCodes x = Start.made(1);
        Due.due("redeem(0, 0) of none", x.redeem(0, 0), false);
        give(x, 0, 1, 0);
        x.coupon(0);
        int[] shops = {-1, 100, Integer.MIN_VALUE, Integer.MAX_VALUE};
        for (int shop : shops) {
            Due.due("redeem(0, " + shop + ")", x.redeem(0, shop), false);
            Due.due("shop(" + shop + ")", x.shop(shop), NONE);
        }
        int[] coupons = {-1, 1, Integer.MIN_VALUE, Integer.MAX_VALUE};
        for (int coupon : coupons) {
            Due.due("redeem(" + coupon + ", 0)", x.redeem(coupon, 0), false);
        }
        Due.due("shop(0)", x.shop(0), 0);
        Due.due("redeem(0, 0)", x.redeem(0, 0), true);
        Due.due("redeem(0, 0) again", x.redeem(0, 0), false);
        Due.due("redeem(0, 1) elsewhere", x.redeem(0, 1), false);
        Due.due("shop(0)", x.shop(0), 25);
        Due.due("shop(1)", x.shop(1), 0);
    }

    private static void manyCoupons() {
        DepositCodes x = Start.made(1);
        for (int k = 0; k < 150; k++) {
            give(x, 0, k, 0);
            Due.due("coupon " + k, x.coupon(0), k);
        }
        for (int k = 0; k < 150; k++) {
            Due.due("redeem(" + k + ", 42)", x.redeem(k, 42), true);
        }
        Due.due("shop(42)", x.shop(42), 3750);
    }

    private static void balancesOfAMonth() {
        DepositCodes x = Start.made(6);
        dueCleared(x, 0, 0, 0);
        give(x, 0, 1, 5 * MONTH);
        give(x, 3, 1, 5 * MONTH);
        give(x, 4, 2, 5 * MONTH);
        give(x, 5, 3, 5 * MONTH);
        give(x, 2, 2, 5 * MONTH);
        give(x, 0, 2, 4 * MONTH);
        Due.due("clear(5)", x.clear(5), 2);
        dueCleared(x, -25, 25, 0);
        Due.due("clear(4)", x.clear(4), 2);
        dueCleared(x, -25, 0, 25);
        Due.due("clear(6)", x.clear(6), 0);
        dueCleared(x, 0, 0, 0);
        x.join(0, 3);
        x.join(2, 4);
        Due.due("clear(5) after the doubles", x.clear(5), 2);
        dueCleared(x, -25, 25, 0);
        Due.due("cleared(3)", x.cleared(3), 0);
        Due.due("cleared(-1)", x.cleared(-1), 0);
        Due.due("cleared(MAX)", x.cleared(Integer.MAX_VALUE), 0);
        Due.due("cleared(MIN)", x.cleared(Integer.MIN_VALUE), 0);
        give(x, 1, 3, 5 * MONTH);
        Due.due("clear(5) when all are even", x.clear(5), 0);
        dueCleared(x, 0, 0, 0);
        give(x, 0, 4, 5 * MONTH);
        give(x, 0, 5, 5 * MONTH);
        Due.due("clear(5) when none is even", x.clear(5), 3);
        dueCleared(x, -50, 25, 25);
    }

    private static void monthsHaveEdges() {
        DepositCodes x = Start.made(1);
        give(x, 0, 1, MONTH - 1);
        give(x, 0, 2, MONTH);
        give(x, 0, 11, 100000000000L);
        Due.due("clear(0)", x.clear(0), 2);
        dueCleared(x, -25, 25, 0);
        Due.due("clear(1)", x.clear(1), 2);
        dueCleared(x, -25, 0, 25);
        Due.due("clear(-1)", x.clear(-1), NONE);
        Due.due("clear(40001)", x.clear(40001), NONE);
        Due.due("clear(MIN)", x.clear(Integer.MIN_VALUE), NONE);
        Due.due("clear(MAX)", x.clear(Integer.MAX_VALUE), NONE);
        dueCleared(x, -25, 0, 25);
        Due.due("clear(38580)", x.clear(38580), 2);
        dueCleared(x, -25, 25, 0);
        Due.due("clear(38579)", x.clear(38579), 0);
        Due.due("clear(40000)", x.clear(40000), 0);
    }

    private static void systemsOfSerials() {
        for (int stem = 0; stem < 20; stem++) {
            for (int machine = 0; machine < 6; machine++) {
                DepositCodes x = Start.made(6);
                give(x, machine, stem, 7);
                long[] due = new long[3];
                due[machine % 3] -= 25;
                due[stem % 10 % 3] += 25;
                Due.due("clear(0)", x.clear(0), machine % 3 == stem % 10 % 3 ? 0 : 2);
                dueCleared(x, due[0], due[1], due[2]);
            }
        }
    }

    private static void clearedIsAsItWasThen() {
        DepositCodes x = Start.made(3);
        give(x, 0, 1, 0);
        Due.due("clear(0)", x.clear(0), 2);
        give(x, 0, 2, 0);
        dueCleared(x, -25, 25, 0);
        Due.due("clear(0)", x.clear(0), 3);
        dueCleared(x, -50, 25, 25);
    }

    private static void dueCleared(DepositCodes x, long a, long b, long c) {
        Due.due("cleared(0)", x.cleared(0), a);
        Due.due("cleared(1)", x.cleared(1), b);
        Due.due("cleared(2)", x.cleared(2), c);
    }

    private static void give(DepositCodes x, int machine, long stem, long second) {
        Due.due("give(" + machine + ", " + stem + ")", x.give(machine, Start.serial(stem), 0, 0, second), 1);
    }
}
