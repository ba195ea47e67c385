/** Promises 8 to 14 and the machines, shapes and reasons of Terms at their edges: each method holds one sentence. */
public final class GivingEdgesTest {
    private static final int NONE = DepositCodes.NONE;
    private static final int MIN = Integer.MIN_VALUE;
    private static final int MAX = Integer.MAX_VALUE;
    private static final long LARGEST = 999999999999999999L;
    private static final long LARGEST_GOOD = 999999999999999995L;
    private static final long LAST_SECOND = 100000000000L;

    public static void main(String[] args) {
        promise1NoMachines();
        promise1NoShapes();
        promise8SixMachinesAtMost();
        promise8EachIsASetOfItsOwn();
        promise8EachHasPowerAndIsNotFull();
        promise9ShapesAre0To7();
        promise9WeightsAre0To100000();
        promise9LeastIsAtMostMost();
        promise9FromNowOn();
        promise10MachinesThatThereAre();
        promise10FullOrNotAnyMore();
        promise11MachinesThatThereAre();
        promise11PowerOrNotAnyMore();
        promise12SerialsAreAnyNumbers();
        promise12SecondsAre0To100000000000();
        promise12TwoHundredSerials();
        promise12RefusedOnesAreNotOfThe200();
        promise12DoublesAreOfThe200();
        promise13NoReasonYet();
        promise13NoneLeavesTheReason();
        promise13PaidIsReason0();
        termsTheFirstReasonThatHolds();
        termsNoSuchMachine();
        termsNoSuchShape();
        termsWeightsOutsideTheSpan();
        termsPaidAlreadyInTheSet();
        promise14NoSuchMachinesOrShapes();
        promise14NothingAndAllOfIt();
        promise14OnlyWhatWasPaid();
        Due.end("GivingEdgesTest");
    }

    private static void promise1NoMachines() {
        DepositCodes x = new DepositCodes();
        x.shape(0, 0, 9);
        for (int machine = 0; machine < 6; machine++) {
            dueReason(x, machine, 0, 0, 0, 1);
            Due.due("full(" + machine + ")", x.full(machine, true), false);
            Due.due("power(" + machine + ")", x.power(machine, true), false);
            Due.due("count(" + machine + ", 0)", x.count(machine, 0), NONE);
            Due.due("coupon(" + machine + ")", x.coupon(machine), NONE);
            Due.due("join(" + machine + ", " + machine + ")", x.join(machine, machine), NONE);
        }
    }

    private static void promise1NoShapes() {
        DepositCodes x = new DepositCodes();
        x.machine();
        for (int shape = 0; shape < 8; shape++) {
            dueReason(x, 0, 0, shape, 0, 4);
            Due.due("count(0, " + shape + ")", x.count(0, shape), 0);
        }
    }

    private static void promise8SixMachinesAtMost() {
        DepositCodes x = new DepositCodes();
        x.shape(0, 0, 9);
        for (int made = 0; made < 6; made++) {
            dueReason(x, made, 0, 0, 0, 1);
            Due.due("machine()", x.machine(), made);
            dueReason(x, made, 0, 0, 0, 0);
        }
        for (int k = 0; k < 10; k++) {
            Due.due("machine() of a seventh", x.machine(), NONE);
            dueReason(x, 6, 0, 0, 0, 1);
            Due.due("count(6, 0)", x.count(6, 0), NONE);
        }
        for (int made = 0; made < 6; made++) {
            dueReason(x, made, 0, 0, 0, 7);
            Due.due("count(" + made + ", 0)", x.count(made, 0), 1);
        }
    }

    private static void promise8EachIsASetOfItsOwn() {
        DepositCodes x = Start.made(6);
        for (int machine = 5; machine >= 0; machine--) {
            dueReason(x, machine, 17, 0, 0, 0);
            dueReason(x, machine, 17, 0, 0, 7);
        }
        DepositCodes y = Start.made(2);
        y.give(0, 17, 0, 0, 0);
        y.join(0, 1);
        Due.due("machine() after a joining", y.machine(), 2);
        dueReason(y, 1, 17, 0, 0, 7);
        dueReason(y, 2, 17, 0, 0, 0);
    }

    private static void promise8EachHasPowerAndIsNotFull() {
        DepositCodes x = new DepositCodes();
        x.shape(0, 0, 9);
        for (int machine = 0; machine < 6; machine++) {
            x.machine();
            dueReason(x, machine, 0, 0, 0, 0);
            Due.due("coupon(" + machine + ")", x.coupon(machine), machine);
            x.full(machine, true);
            x.power(machine, false);
        }
    }

    private static void promise9ShapesAre0To7() {
        DepositCodes x = Start.made(1);
        for (int shape = 0; shape < 8; shape++) {
            Due.due("shape(" + shape + ", 3, 4)", x.shape(shape, 3, 4), true);
            dueReason(x, 0, Start.serial(shape), shape, 4, 0);
        }
        int[] wrong = {MIN, MIN + 1, -8, -1, 8, 9, 16, 65536, MAX - 1, MAX};
        for (int shape : wrong) {
            Due.due("shape(" + shape + ", 3, 9)", x.shape(shape, 3, 9), false);
            dueReason(x, 0, Start.serial(99), shape, 4, 4);
        }
        for (int shape = 0; shape < 8; shape++) {
            dueReason(x, 0, Start.serial(99), shape, 5, 5);
        }
    }

    private static void promise9WeightsAre0To100000() {
        int[][] right = {{0, 0}, {0, 1}, {0, 100000}, {99999, 100000}, {100000, 100000}};
        int[][] wrong = {
            {-1, 0}, {-1, -1}, {-1, 100000}, {MIN, 0}, {MIN, MIN}, {MIN, MAX}, {MIN, 100000},
            {0, 100001}, {100000, 100001}, {100001, 100001}, {0, MAX}, {MAX, MAX}, {100000, MAX}, {-1, 100001},
        };
        for (int[] span : right) {
            DepositCodes x = Start.made(1);
            Due.due("shape(7, " + span[0] + ", " + span[1] + ")", x.shape(7, span[0], span[1]), true);
            dueReason(x, 0, 17, 7, span[0] - 1, 5);
            dueReason(x, 0, 17, 7, span[1] + 1, 5);
            dueReason(x, 0, 17, 7, span[0], 0);
            dueReason(x, 0, 0, 7, span[1], 0);
        }
        for (int[] span : wrong) {
            DepositCodes x = Start.made(1);
            Due.due("shape(7, " + span[0] + ", " + span[1] + ")", x.shape(7, span[0], span[1]), false);
            dueReason(x, 0, 17, 7, 0, 4);
            x.shape(7, 5, 6);
            Due.due("shape(7, " + span[0] + ", " + span[1] + ")", x.shape(7, span[0], span[1]), false);
            dueReason(x, 0, 17, 7, 4, 5);
            dueReason(x, 0, 17, 7, 7, 5);
            dueReason(x, 0, 17, 7, 5, 0);
            dueReason(x, 0, 0, 7, 6, 0);
        }
    }

    private static void promise9LeastIsAtMostMost() {
        int[][] wrong = {{1, 0}, {51, 50}, {100000, 99999}, {100000, 0}, {MAX, MIN}, {MAX, 0}, {0, MIN}, {0, -1}};
        for (int[] span : wrong) {
            DepositCodes x = Start.made(1);
            Due.due("shape(1, " + span[0] + ", " + span[1] + ")", x.shape(1, span[0], span[1]), false);
            dueReason(x, 0, 17, 1, 0, 4);
        }
        DepositCodes x = Start.made(1);
        Due.due("shape(1, 50, 50)", x.shape(1, 50, 50), true);
        dueReason(x, 0, 17, 1, 49, 5);
        dueReason(x, 0, 17, 1, 51, 5);
        dueReason(x, 0, 17, 1, 50, 0);
        Due.due("shape(1, 49, 50)", x.shape(1, 49, 50), true);
        dueReason(x, 0, 0, 1, 49, 0);
    }

    private static void promise9FromNowOn() {
        DepositCodes x = Start.made(2);
        dueReason(x, 0, 17, 0, 9, 0);
        Due.due("shape(0, 20, 30)", x.shape(0, 20, 30), true);
        Due.due("count(0, 0) of the earlier span", x.count(0, 0), 1);
        dueReason(x, 0, 0, 0, 9, 5);
        dueReason(x, 0, 17, 0, 25, 7);
        dueReason(x, 1, 17, 0, 9, 5);
        dueReason(x, 1, 17, 0, 20, 0);
        dueReason(x, 1, 0, 0, 30, 0);
        dueReason(x, 0, 0, 1, 25, 4);
    }

    private static void promise10MachinesThatThereAre() {
        for (int made = 0; made <= 6; made++) {
            DepositCodes x = Start.made(made);
            int[] wrong = {MIN, MIN + 1, -6, -1, made, made + 1, 6, 7, 65536, MAX - 1, MAX};
            for (int machine : wrong) {
                Due.due("full(" + machine + ", true) of " + made, x.full(machine, true), false);
                Due.due("full(" + machine + ", false) of " + made, x.full(machine, false), false);
                Due.due("full(" + machine + ", true) of " + made, x.full(machine, true), false);
            }
            for (int machine = 0; machine < made; machine++) {
                dueReason(x, machine, 17, 0, 0, 0);
                Due.due("full(" + machine + ", true)", x.full(machine, true), true);
            }
            if (made < 6) {
                x.machine();
                dueReason(x, made, 17, 0, 0, 0);
            }
        }
    }

    private static void promise10FullOrNotAnyMore() {
        DepositCodes x = Start.made(6);
        for (int machine = 0; machine < 6; machine++) {
            Due.due("full(" + machine + ", false) when it is not", x.full(machine, false), true);
            dueReason(x, machine, 0, 0, 0, 0);
            Due.due("full(" + machine + ", true)", x.full(machine, true), true);
            Due.due("full(" + machine + ", true) when it is", x.full(machine, true), true);
            for (int other = 0; other < 6; other++) {
                dueReason(x, other, 17, 0, 10, other == machine ? 2 : 5);
            }
            dueReason(x, machine, 17, 0, 0, 2);
            Due.due("full(" + machine + ", false)", x.full(machine, false), true);
            dueReason(x, machine, 17, 0, 0, 0);
        }
    }

    private static void promise11MachinesThatThereAre() {
        for (int made = 0; made <= 6; made++) {
            DepositCodes x = Start.made(made);
            int[] wrong = {MIN, MIN + 1, -6, -1, made, made + 1, 6, 7, 65536, MAX - 1, MAX};
            for (int machine : wrong) {
                Due.due("power(" + machine + ", false) of " + made, x.power(machine, false), false);
                Due.due("power(" + machine + ", true) of " + made, x.power(machine, true), false);
                Due.due("power(" + machine + ", false) of " + made, x.power(machine, false), false);
            }
            for (int machine = 0; machine < made; machine++) {
                dueReason(x, machine, 17, 0, 0, 0);
                Due.due("power(" + machine + ", false)", x.power(machine, false), true);
            }
            if (made < 6) {
                x.machine();
                dueReason(x, made, 17, 0, 0, 0);
            }
        }
    }

    private static void promise11PowerOrNotAnyMore() {
        DepositCodes x = Start.made(6);
        for (int machine = 0; machine < 6; machine++) {
            Due.due("power(" + machine + ", true) when it has", x.power(machine, true), true);
            dueReason(x, machine, 0, 0, 0, 0);
            Due.due("power(" + machine + ", false)", x.power(machine, false), true);
            Due.due("power(" + machine + ", false) when it has none", x.power(machine, false), true);
            for (int other = 0; other < 6; other++) {
                dueReason(x, other, 17, 0, 10, other == machine ? 3 : 5);
            }
            dueReason(x, machine, 17, 0, 0, 3);
            Due.due("power(" + machine + ", true)", x.power(machine, true), true);
            dueReason(x, machine, 17, 0, 0, 0);
        }
    }

    private static void promise12SerialsAreAnyNumbers() {
        DepositCodes x = Start.made(1);
        dueReason(x, 0, 1, 0, 0, 6);
        long[] wrong = {
            Long.MIN_VALUE, Long.MIN_VALUE + 1, -LARGEST, -4294967296L, -17, -10, -1,
            LARGEST + 1, LARGEST + 2, LARGEST + 8, Long.MAX_VALUE - 1, Long.MAX_VALUE,
        };
        for (long serial : wrong) {
            dueNone(x, 0, serial, 0, 0, 0, 6);
        }
        // Some of each ten would be good if its decimals alone were looked at.
        for (int last = 0; last < 10; last++) {
            dueNone(x, 0, -last - 1, 0, 0, 0, 6);
            dueNone(x, 0, LARGEST + 1 + last, 0, 0, 0, 6);
        }
        Due.due("count(0, 0)", x.count(0, 0), 0);
        dueReason(x, 0, LARGEST, 0, 0, 6);
        dueReason(x, 0, LARGEST_GOOD, 0, 0, 0);
        dueReason(x, 0, LARGEST_GOOD, 0, 0, 7);
        dueReason(x, 0, 0, 0, 0, 0);
        dueReason(x, 0, 0, 0, 0, 7);
        dueReason(x, 0, 42949672962L, 0, 0, 0);
        dueReason(x, 0, 42949672962L, 0, 0, 7);
        Due.due("count(0, 0)", x.count(0, 0), 3);
    }

    private static void promise12SecondsAre0To100000000000() {
        DepositCodes x = Start.made(1);
        dueReason(x, 0, 17, 0, 10, 5);
        long[] wrong = {
            Long.MIN_VALUE, Long.MIN_VALUE + 1, -LAST_SECOND, -4294967296L, -1,
            LAST_SECOND + 1, 2 * LAST_SECOND, LARGEST, Long.MAX_VALUE - 1, Long.MAX_VALUE,
        };
        for (long second : wrong) {
            dueNone(x, 0, 17, 0, 0, second, 5);
            dueNone(x, 0, 16, 0, 0, second, 5);
            dueNone(x, 1, 17, 0, 0, second, 5);
        }
        Due.due("count(0, 0)", x.count(0, 0), 0);
        long[] right = {0, 1, 2147483647L, 2147483648L, 4294967296L, LAST_SECOND - 1, LAST_SECOND};
        for (int k = 0; k < right.length; k++) {
            Due.due("give at " + right[k], x.give(0, Start.serial(k), 0, 0, right[k]), 1);
            Due.due("give at " + right[k] + " again", x.give(0, Start.serial(k), 0, 0, right[k]), 0);
        }
        Due.due("count(0, 0)", x.count(0, 0), right.length);
    }

    private static void promise12TwoHundredSerials() {
        DepositCodes x = Start.made(6);
        for (int k = 0; k < 200; k++) {
            Due.due("give " + k, x.give(k % 6, Start.serial(k), 0, 0, 0), 1);
        }
        dueNone(x, 0, Start.serial(200), 0, 0, 0, 0);
        for (int machine = 0; machine < 6; machine++) {
            dueNone(x, machine, Start.serial(0), 0, 0, 0, 0);
            dueNone(x, machine, Start.serial(300 + machine), 0, 0, 0, 0);
            Due.due("count(" + machine + ", 0)", x.count(machine, 0), machine < 2 ? 34 : 33);
        }
        dueNone(x, 6, Start.serial(0), 0, 0, 0, 0);
        dueNone(x, 0, Start.serial(0), 8, 0, 0, 0);
        dueNone(x, 0, Start.serial(0), 0, 10, 0, 0);
        dueNone(x, 0, Start.serial(0) + 1, 0, 0, 0, 0);
        dueNone(x, 0, -1, 0, 0, 0, 0);
        dueNone(x, 0, Start.serial(0), 0, 0, -1, 0);
        for (int k = 0; k < 7; k++) {
            dueNone(x, 0, Start.serial(0), 0, 0, 0, 0);
        }
        Due.due("fraud(0)", x.fraud(0), NONE);
    }

    private static void promise12RefusedOnesAreNotOfThe200() {
        DepositCodes x = Start.made(1);
        for (int k = 0; k < 199; k++) {
            Due.due("give " + k, x.give(0, Start.serial(k), 0, 0, 0), 1);
        }
        for (int k = 0; k < 30; k++) {
            Due.due("give of a paid one", x.give(0, Start.serial(k), 0, 0, 0), 0);
            Due.due("give of a heavy one", x.give(0, Start.serial(k), 0, 10, 0), 0);
            Due.due("give of no number", x.give(0, -1, 0, 0, 0), NONE);
            Due.due("give at no second", x.give(0, Start.serial(500), 0, 0, -1), NONE);
        }
        dueReason(x, 0, Start.serial(199), 0, 0, 0);
        dueNone(x, 0, Start.serial(200), 0, 0, 0, 0);
        Due.due("count(0, 0)", x.count(0, 0), 200);
    }

    private static void promise12DoublesAreOfThe200() {
        DepositCodes x = Start.made(2);
        for (int k = 0; k < 198; k++) {
            Due.due("give " + k, x.give(k % 2, Start.serial(k / 2), 0, 0, 0), 1);
        }
        Due.due("join(0, 1)", x.join(0, 1), 99);
        dueReason(x, 0, Start.serial(0), 0, 0, 7);
        dueReason(x, 0, Start.serial(99), 0, 0, 0);
        dueReason(x, 1, Start.serial(99), 0, 0, 7);
        dueReason(x, 1, Start.serial(100), 0, 0, 0);
        dueNone(x, 1, Start.serial(101), 0, 0, 0, 0);
        dueNone(x, 1, Start.serial(100), 0, 0, 0, 0);
    }

    private static void promise13NoReasonYet() {
        DepositCodes x = new DepositCodes();
        Due.due("reason() of a new object", x.reason(), 0);
        dueNone(x, 0, -1, 0, 0, 0, 0);
        dueNone(x, 0, 0, 0, 0, -1, 0);
        x.machine();
        x.shape(0, 0, 9);
        Due.due("reason() before a give()", x.reason(), 0);
    }

    private static void promise13NoneLeavesTheReason() {
        for (int reason = 1; reason <= 7; reason++) {
            DepositCodes x = Start.made(1);
            x.give(0, 17, 0, 0, 0);
            x.full(0, reason == 2);
            x.power(0, reason != 3);
            dueReason(x, reason == 1 ? 1 : 0, reason == 6 ? 1 : 17, reason == 4 ? 1 : 0, reason == 5 ? 10 : 0, reason);
            dueNone(x, 0, -1, 0, 0, 0, reason);
            dueNone(x, 0, LARGEST + 1, 0, 0, 0, reason);
            dueNone(x, 0, 0, 0, 0, -1, reason);
            dueNone(x, 0, 0, 0, 0, LAST_SECOND + 1, reason);
            x.machine();
            x.shape(0, 0, 8);
            x.join(0, 1);
            x.coupon(0);
            Due.due("reason() after other calls", x.reason(), reason);
        }
    }

    private static void promise13PaidIsReason0() {
        DepositCodes x = Start.made(1);
        for (int k = 0; k < 20; k++) {
            dueReason(x, 0, Start.serial(k), 0, 10, 5);
            dueReason(x, 0, Start.serial(k), 0, 9, 0);
        }
    }

    /** Every choice of what is wrong at once; a serial that is not good can't be paid already. */
    private static void termsTheFirstReasonThatHolds() {
        for (int wrong = 0; wrong < 128; wrong++) {
            if ((wrong & 96) == 96) {
                continue;
            }
            DepositCodes x = Start.made(1);
            if ((wrong & 64) != 0) {
                x.give(0, 17, 0, 0, 0);
            }
            x.full(0, (wrong & 2) != 0);
            x.power(0, (wrong & 4) == 0);
            int machine = (wrong & 1) != 0 ? 1 : 0;
            int shape = (wrong & 8) != 0 ? 1 : 0;
            int weight = (wrong & 16) != 0 ? 10 : 9;
            long serial = (wrong & 32) != 0 ? 16 : 17;
            int due = wrong == 0 ? 0 : 1 + Integer.numberOfTrailingZeros(wrong);
            dueReason(x, machine, serial, shape, weight, due);
        }
    }

    private static void termsNoSuchMachine() {
        for (int made = 0; made <= 6; made++) {
            DepositCodes x = Start.made(made);
            int[] wrong = {MIN, MIN + 1, -1, made, 6, 7, 65536, MAX - 1, MAX};
            for (int machine : wrong) {
                dueReason(x, machine, 17, 0, 0, 1);
            }
            for (int machine = 0; machine < made; machine++) {
                dueReason(x, machine, 17, 0, 0, 0);
            }
        }
    }

    private static void termsNoSuchShape() {
        DepositCodes x = new DepositCodes();
        x.machine();
        for (int shape = 0; shape < 8; shape++) {
            x.shape(shape, 0, 9);
        }
        int[] wrong = {MIN, MIN + 1, -8, -1, 8, 9, 65536, MAX - 1, MAX};
        for (int shape : wrong) {
            dueReason(x, 0, 17, shape, 0, 4);
        }
        dueReason(x, 0, 17, 7, 0, 0);
        dueReason(x, 0, 0, 0, 0, 0);
    }

    private static void termsWeightsOutsideTheSpan() {
        DepositCodes x = new DepositCodes();
        x.machine();
        x.shape(2, 0, 100000);
        x.shape(3, 300, 400);
        int[] outside2 = {MIN, MIN + 1, -1, 100001, 165536, MAX - 1, MAX};
        for (int weight : outside2) {
            dueReason(x, 0, 17, 2, weight, 5);
        }
        int[] outside3 = {MIN, -300, 0, 299, 401, 65836, MAX};
        for (int weight : outside3) {
            dueReason(x, 0, 17, 3, weight, 5);
        }
        dueReason(x, 0, Start.serial(1), 2, 0, 0);
        dueReason(x, 0, Start.serial(2), 2, 100000, 0);
        dueReason(x, 0, Start.serial(3), 3, 300, 0);
        dueReason(x, 0, Start.serial(4), 3, 400, 0);
    }

    private static void termsPaidAlreadyInTheSet() {
        DepositCodes x = Start.made(3);
        x.shape(1, 0, 9);
        dueReason(x, 0, 17, 0, 0, 0);
        Due.due("give as another shape at another second", x.give(0, 17, 1, 5, 77777777), 0);
        Due.due("reason()", x.reason(), 7);
        dueReason(x, 1, 17, 0, 0, 0);
        x.join(1, 2);
        dueReason(x, 2, 17, 0, 0, 7);
        dueReason(x, 2, 0, 0, 0, 0);
        dueReason(x, 0, 0, 0, 0, 0);
        dueReason(x, 1, 0, 0, 0, 7);
    }

    private static void promise14NoSuchMachinesOrShapes() {
        for (int made = 0; made <= 6; made++) {
            DepositCodes x = Start.made(made);
            int[] machines = {MIN, MIN + 1, -1, made, 6, 7, 65536, MAX - 1, MAX};
            for (int machine : machines) {
                Due.due("count(" + machine + ", 0) of " + made, x.count(machine, 0), NONE);
                Due.due("count(" + machine + ", 7) of " + made, x.count(machine, 7), NONE);
            }
            int[] shapes = {MIN, MIN + 1, -8, -1, 8, 9, 65536, MAX - 1, MAX};
            for (int machine = 0; machine < made; machine++) {
                for (int shape : shapes) {
                    Due.due("count(" + machine + ", " + shape + ")", x.count(machine, shape), NONE);
                }
                Due.due("count(" + machine + ", 0)", x.count(machine, 0), 0);
                Due.due("count(" + machine + ", 7)", x.count(machine, 7), 0);
            }
        }
    }

    private static void promise14NothingAndAllOfIt() {
        DepositCodes x = new DepositCodes();
        x.machine();
        x.machine();
        x.shape(7, 0, 9);
        for (int k = 0; k < 200; k++) {
            Due.due("count(1, 7)", x.count(1, 7), k);
            Due.due("give " + k, x.give(1, Start.serial(k), 7, 0, 0), 1);
        }
        Due.due("count(1, 7) of all", x.count(1, 7), 200);
        Due.due("count(0, 7)", x.count(0, 7), 0);
        Due.due("count(1, 6)", x.count(1, 6), 0);
    }

    private static void promise14OnlyWhatWasPaid() {
        DepositCodes x = Start.made(2);
        x.give(0, 16, 0, 0, 0);
        x.give(0, 17, 0, 10, 0);
        x.give(0, 17, 0, 0, -1);
        Due.due("count(0, 0) before", x.count(0, 0), 0);
        x.give(0, 17, 0, 0, 0);
        x.give(0, 17, 0, 0, 0);
        Due.due("count(0, 0)", x.count(0, 0), 1);
        x.give(1, 17, 0, 0, 0);
        x.join(1, 0);
        Due.due("count(0, 0) of a double", x.count(0, 0), 1);
        Due.due("count(1, 0) of a double", x.count(1, 0), 1);
    }

    private static void dueReason(DepositCodes x, int machine, long serial, int shape, int weight, int reason) {
        String call = "give(" + machine + ", " + serial + ", " + shape + ", " + weight + ", 0)";
        Due.due(call, x.give(machine, serial, shape, weight, 0), reason == 0 ? 1 : 0);
        Due.due("reason() after " + call, x.reason(), reason);
    }

    private static void dueNone(DepositCodes x, int machine, long serial, int shape, int weight, long second,
            int before) {
        String call = "give(" + machine + ", " + serial + ", " + shape + ", " + weight + ", " + second + ")";
        Due.due(call, x.give(machine, serial, shape, weight, second), NONE);
        Due.due("reason() after " + call, x.reason(), before);
    }
}
