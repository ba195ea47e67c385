/** Promises 8 to 14: machines, shapes, giving, reasons, counts. */
public final class GivingTest {
    private static final int NONE = DepositCodes.NONE;
    private static final long LARGEST = 999999999999999999L;
    private static final long LAST_SECOND = 100000000000L;

    public static void main(String[] args) {
        sixMachines();
        toldOfMachinesThatThereAreNot();
        spansHaveLimits();
        reasonsComeInTheirOrder();
        aRefusedSpanChangesNothing();
        whatIsNoGiving();
        weightsAtTheEdges();
        countsByMachineAndShape();
        twoHundredAreTheLimit();
        aFullOrDarkMachineIsPaidAgainLater();
        Due.end("GivingTest");
    }

    private static void sixMachines() {
        DepositCodes x = new DepositCodes();
        for (int k = 0; k < 6; k++) {
            Due.due("machine()", x.machine(), k);
        }
        Due.due("machine() of a seventh", x.machine(), NONE);
        Due.due("machine() of an eighth", x.machine(), NONE);
        x.shape(0, 0, 9);
        for (int k = 0; k < 6; k++) {
            Due.due("a set of its own " + k, x.give(k, 17, 0, 5, 0), 1);
        }
    }

    private static void toldOfMachinesThatThereAreNot() {
        DepositCodes x = new DepositCodes();
        int[] wrong = {-1, 0, 1, 6, Integer.MIN_VALUE, Integer.MAX_VALUE};
        for (int machine : wrong) {
            Due.due("full(" + machine + ")", x.full(machine, true), false);
            Due.due("power(" + machine + ")", x.power(machine, false), false);
        }
        x.machine();
        x.shape(0, 0, 9);
        Due.due("give(0) after refused full and power", x.give(0, 0, 0, 0, 0), 1);
        Due.due("full(0)", x.full(0, true), true);
        Due.due("full(0) again", x.full(0, true), true);
        Due.due("full(1)", x.full(1, true), false);
        Due.due("power(0)", x.power(0, true), true);
        Due.due("power(1)", x.power(1, true), false);
        Due.due("power(-1)", x.power(-1, true), false);
    }

    private static void spansHaveLimits() {
        DepositCodes x = new DepositCodes();
        Due.due("shape(0, 0, 100000)", x.shape(0, 0, 100000), true);
        Due.due("shape(7, 100000, 100000)", x.shape(7, 100000, 100000), true);
        Due.due("shape(7, 0, 0)", x.shape(7, 0, 0), true);
        Due.due("shape(8, 0, 0)", x.shape(8, 0, 0), false);
        Due.due("shape(-1, 0, 0)", x.shape(-1, 0, 0), false);
        Due.due("shape(0, -1, 0)", x.shape(0, -1, 0), false);
        Due.due("shape(0, 0, 100001)", x.shape(0, 0, 100001), false);
        Due.due("shape(0, 2, 1)", x.shape(0, 2, 1), false);
        Due.due("shape(0, MIN, MAX)", x.shape(0, Integer.MIN_VALUE, Integer.MAX_VALUE), false);
        Due.due("shape(MAX, 0, 0)", x.shape(Integer.MAX_VALUE, 0, 0), false);
    }

    private static void reasonsComeInTheirOrder() {
        DepositCodes x = new DepositCodes();
        Due.due("reason() of a new object", x.reason(), 0);
        dueRefused(x, 0, 1, 3, 50, 1);
        dueRefused(x, -1, 1, 3, 50, 1);
        x.machine();
        dueRefused(x, 1, 1, 3, 50, 1);
        x.full(0, true);
        x.power(0, false);
        dueRefused(x, 0, 1, 3, 50, 2);
        x.full(0, false);
        dueRefused(x, 0, 1, 3, 50, 3);
        x.power(0, true);
        dueRefused(x, 0, 1, 3, 50, 4);
        dueRefused(x, 0, 1, 8, 50, 4);
        dueRefused(x, 0, 1, -1, 50, 4);
        dueRefused(x, 0, 1, Integer.MAX_VALUE, 50, 4);
        x.shape(3, 10, 20);
        dueRefused(x, 0, 1, 3, 50, 5);
        dueRefused(x, 0, 1, 3, 15, 6);
        Due.due("give of a good serial", x.give(0, 17, 3, 15, 0), 1);
        Due.due("reason() of a paid one", x.reason(), 0);
        dueRefused(x, 0, 17, 3, 15, 7);
        dueRefused(x, 0, 17, 3, 21, 5);
        dueRefused(x, 0, 17, 2, 15, 4);
        x.power(0, false);
        dueRefused(x, 0, 17, 3, 15, 3);
        x.full(0, true);
        dueRefused(x, 0, 17, 3, 15, 2);
    }

    private static void aRefusedSpanChangesNothing() {
        DepositCodes x = new DepositCodes();
        x.machine();
        x.shape(0, 3, 1);
        dueRefused(x, 0, 0, 0, 2, 4);
        x.shape(0, 10, 20);
        x.shape(0, 0, 100001);
        x.shape(0, -1, 100);
        dueRefused(x, 0, 0, 0, 5, 5);
        x.shape(0, 5, 6);
        dueRefused(x, 0, 0, 0, 15, 5);
        Due.due("give in the later span", x.give(0, 0, 0, 6, 0), 1);
    }

    private static void whatIsNoGiving() {
        DepositCodes x = new DepositCodes();
        x.machine();
        x.shape(0, 0, 100);
        dueRefused(x, 0, 1, 0, 0, 6);
        long[] serials = {-1, LARGEST + 1, Long.MIN_VALUE, Long.MAX_VALUE};
        for (long serial : serials) {
            Due.due("give of " + serial, x.give(0, serial, 0, 0, 0), NONE);
            Due.due("give of " + serial + " nowhere", x.give(9, serial, 0, 0, 0), NONE);
        }
        long[] seconds = {-1, LAST_SECOND + 1, Long.MIN_VALUE, Long.MAX_VALUE};
        for (long second : seconds) {
            Due.due("give at " + second, x.give(0, 0, 0, 0, second), NONE);
            Due.due("give at " + second + " nowhere", x.give(9, 0, 0, 0, second), NONE);
        }
        Due.due("reason() is the one before", x.reason(), 6);
        Due.due("nothing was paid", x.count(0, 0), 0);
        Due.due("give at 0", x.give(0, 0, 0, 0, 0), 1);
        Due.due("give at the last second", x.give(0, 17, 0, 0, LAST_SECOND), 1);
        long largestGood = 10 * (LARGEST / 10) + x.check(0, LARGEST / 10);
        Due.due("give of a large serial", x.give(0, largestGood, 0, 0, 5), 1);
        dueRefused(x, 0, largestGood, 0, 0, 7);
    }

    private static void weightsAtTheEdges() {
        DepositCodes x = new DepositCodes();
        x.machine();
        x.shape(0, 10, 20);
        dueRefused(x, 0, 0, 0, 9, 5);
        dueRefused(x, 0, 0, 0, 21, 5);
        dueRefused(x, 0, 0, 0, Integer.MIN_VALUE, 5);
        dueRefused(x, 0, 0, 0, Integer.MAX_VALUE, 5);
        Due.due("give at the least", x.give(0, 0, 0, 10, 0), 1);
        Due.due("give at the most", x.give(0, 17, 0, 20, 0), 1);
    }

    private static void countsByMachineAndShape() {
        DepositCodes x = new DepositCodes();
        Due.due("count(0, 0) without machines", x.count(0, 0), NONE);
        x.machine();
        x.machine();
        x.shape(0, 0, 9);
        x.shape(7, 0, 9);
        x.give(0, Start.serial(1), 0, 0, 0);
        x.give(0, Start.serial(2), 7, 0, 0);
        x.give(0, Start.serial(3), 7, 0, 0);
        x.give(1, Start.serial(3), 7, 0, 0);
        x.give(0, Start.serial(3), 7, 0, 0);
        x.give(0, Start.serial(4), 7, 10, 0);
        Due.due("count(0, 0)", x.count(0, 0), 1);
        Due.due("count(0, 7)", x.count(0, 7), 2);
        Due.due("count(1, 7)", x.count(1, 7), 1);
        Due.due("count(1, 0)", x.count(1, 0), 0);
        Due.due("count of a shape without a span", x.count(0, 3), 0);
        Due.due("count(2, 0)", x.count(2, 0), NONE);
        Due.due("count(-1, 0)", x.count(-1, 0), NONE);
        Due.due("count(0, 8)", x.count(0, 8), NONE);
        Due.due("count(0, -1)", x.count(0, -1), NONE);
        Due.due("count(MIN, MAX)", x.count(Integer.MIN_VALUE, Integer.MAX_VALUE), NONE);
    }

    private static void twoHundredAreTheLimit() {
        DepositCodes x = new DepositCodes();
        x.machine();
        x.machine();
        x.shape(0, 0, 9);
        for (int k = 0; k < 199; k++) {
            Due.due("give " + k, x.give(k % 2, Start.serial(k / 2), 0, 0, 0), 1);
        }
        dueRefused(x, 0, 1, 0, 0, 6);
        x.join(0, 1);
        Due.due("give of the 200th", x.give(0, Start.serial(999), 0, 0, 0), 1);
        Due.due("give of the 201st", x.give(0, Start.serial(1000), 0, 0, 0), NONE);
        Due.due("give of one that is paid", x.give(0, 0, 0, 0, 0), NONE);
        Due.due("give of what is not good", x.give(0, 1, 0, 0, 0), NONE);
        Due.due("give to no machine", x.give(5, 0, 0, 0, 0), NONE);
        Due.due("reason() of the 200th", x.reason(), 0);
        Due.due("count(0, 0)", x.count(0, 0), 101);
        Due.due("count(1, 0)", x.count(1, 0), 99);
        Due.due("no fraud comes", x.fraud(0), NONE);
        x.machine();
        Due.due("join with all paid", x.join(2, 0), 0);
        Due.due("clear with all paid", x.clear(0), 3);
    }

    private static void aFullOrDarkMachineIsPaidAgainLater() {
        DepositCodes x = new DepositCodes();
        x.machine();
        x.machine();
        x.shape(0, 0, 9);
        x.full(0, true);
        Due.due("give to the other one", x.give(1, 0, 0, 0, 0), 1);
        dueRefused(x, 0, 0, 0, 0, 2);
        x.full(0, false);
        x.power(1, false);
        Due.due("give to the emptied one", x.give(0, 0, 0, 0, 0), 1);
        dueRefused(x, 1, 17, 0, 0, 3);
        x.power(1, true);
        Due.due("give to the powered one", x.give(1, 17, 0, 0, 0), 1);
    }

    private static void dueRefused(DepositCodes x, int machine, long serial, int shape, int weight, int reason) {
        String call = "give(" + machine + ", " + serial + ", " + shape + ", " + weight + ", 1)";
        Due.due(call, x.give(machine, serial, shape, weight, 1), 0);
        Due.due("reason() after " + call, x.reason(), reason);
    }
}
