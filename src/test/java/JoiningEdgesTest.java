/** Promises 15, 16 and 23, with sets, doubles and frauds of Terms, at their edges: each method holds one sentence. */
public final class JoiningEdgesTest {
    private static final int NONE = DepositCodes.NONE;
    private static final int MIN = Integer.MIN_VALUE;
    private static final int MAX = Integer.MAX_VALUE;
    private static final long LARGEST_GOOD = 999999999999999995L;

    public static void main(String[] args) {
        promise15NoSuchMachines();
        promise15TheSameMachine();
        promise15OfOneSetAlready();
        promise15NothingWasPaid();
        promise15AllWasPaidInBoth();
        promise15WithAll200Paid();
        promise15FullOrDarkMachinesAreJoined();
        termsJoinedOnesAndThoseThatWere();
        termsADoubleCountsForA();
        promise16NoDoublesYet();
        promise16DoublesAreFrom0On();
        promise16WhatIs0To20();
        promise16MachinesOfAAndB();
        promise16SerialsOf1To18Decimals();
        promise16SmallestAndLargestOfEachLength();
        promise16InTheOrderOfTheJoinings();
        promise16SerialsRiseWithinOneJoining();
        promise16EachDoubleKeepsItsMachines();
        promise23NoFraudYet();
        promise23EachThirdRefusal();
        promise23OfTheSameSerial();
        promise23WhateverMachines();
        promise23SinceTheBeginning();
        promise23OnlyForReason7();
        promise23FraudsAreFrom0On();
        promise23AsManyAsCallsCanTell();
        Due.end("JoiningEdgesTest");
    }

    private static void promise15NoSuchMachines() {
        for (int made = 0; made <= 6; made++) {
            DepositCodes x = Start.made(made);
            int[] wrong = {MIN, MIN + 1, -1, made, 6, 7, 65536, MAX - 1, MAX};
            for (int machine : wrong) {
                Due.due("join(" + machine + " twice)", x.join(machine, machine), NONE);
                for (int right = 0; right < made; right++) {
                    Due.due("join(" + machine + ", " + right + ")", x.join(machine, right), NONE);
                    Due.due("join(" + right + ", " + machine + ")", x.join(right, machine), NONE);
                }
            }
            for (int machine = 0; machine < made; machine++) {
                Due.due("give to a set of its own", x.give(machine, 17, 0, 0, 0), 1);
            }
            Due.due("double2(0, 0)", x.double2(0, 0), NONE);
        }
    }

    private static void promise15TheSameMachine() {
        DepositCodes x = Start.made(6);
        for (int machine = 0; machine < 6; machine++) {
            x.give(machine, 17, 0, 0, 0);
            Due.due("join(" + machine + ", " + machine + ")", x.join(machine, machine), 0);
            Due.due("double2(0, 0)", x.double2(0, 0), NONE);
            dueRefusedFor7(x, machine, 17);
        }
        Due.due("join(5, 0) after it", x.join(5, 0), 1);
    }

    private static void promise15OfOneSetAlready() {
        DepositCodes x = Start.made(3);
        x.give(0, 17, 0, 0, 0);
        x.give(1, 17, 0, 0, 0);
        Due.due("join(0, 1)", x.join(0, 1), 1);
        Due.due("join(0, 1) again", x.join(0, 1), 0);
        Due.due("join(1, 0) again", x.join(1, 0), 0);
        Due.due("join(1, 2)", x.join(1, 2), 0);
        Due.due("join(2, 0) by 1", x.join(2, 0), 0);
        Due.due("join(0, 2) by 1", x.join(0, 2), 0);
        dueDouble(x, 0, 0, 1, 17);
        Due.due("double2(1, 0)", x.double2(1, 0), NONE);
    }

    private static void promise15NothingWasPaid() {
        DepositCodes x = Start.made(4);
        Due.due("join(0, 1) with nothing paid", x.join(0, 1), 0);
        x.give(2, 17, 0, 0, 0);
        Due.due("join(2, 0), only A has paid", x.join(2, 0), 0);
        Due.due("join(3, 1), only B has paid", x.join(3, 1), 0);
        for (int machine = 0; machine < 4; machine++) {
            dueRefusedFor7(x, machine, 17);
            Due.due("give of another to the four", x.give(machine, 0, 0, 0, 0), machine == 0 ? 1 : 0);
        }
        Due.due("double2(0, 0)", x.double2(0, 0), NONE);
    }

    private static void promise15AllWasPaidInBoth() {
        DepositCodes x = Start.made(2);
        for (int k = 0; k < 100; k++) {
            x.give(0, Start.serial(k), 0, 0, 0);
            x.give(1, Start.serial(99 - k), 0, 0, 0);
        }
        Due.due("join(1, 0)", x.join(1, 0), 100);
        for (int k = 0; k < 100; k += 9) {
            dueDouble(x, k, 1, 0, Start.serial(k));
        }
        Due.due("double2(100, 0)", x.double2(100, 0), NONE);
        Due.due("join(0, 1) again", x.join(0, 1), 0);
    }

    private static void promise15WithAll200Paid() {
        DepositCodes x = Start.made(5);
        for (int k = 0; k < 200; k++) {
            Due.due("give " + k, x.give(k % 5, Start.serial(k / 5), 0, 0, 0), 1);
        }
        int[] others = {3, 1, 4, 2};
        for (int k = 0; k < 4; k++) {
            Due.due("join(0, " + others[k] + ")", x.join(0, others[k]), 40);
            Due.due("double2, its first", x.double2(40 * k, 1), others[k]);
            Due.due("double2, its last", x.double2(40 * k + 39, 1), others[k]);
        }
        Due.due("double2(159, 0)", x.double2(159, 0), 0);
        Due.due("double2(160, 0)", x.double2(160, 0), NONE);
        Due.due("machine()", x.machine(), 5);
        Due.due("join(5, 0)", x.join(5, 0), 0);
    }

    private static void promise15FullOrDarkMachinesAreJoined() {
        DepositCodes x = Start.made(2);
        x.give(0, 17, 0, 0, 0);
        x.give(1, 17, 0, 0, 0);
        x.full(0, true);
        x.power(1, false);
        Due.due("join(0, 1)", x.join(0, 1), 1);
        x.power(1, true);
        dueRefusedFor7(x, 1, 17);
    }

    private static void termsJoinedOnesAndThoseThatWere() {
        int[][] joinings = {{0, 1}, {2, 3}, {4, 5}, {1, 2}, {3, 4}};
        for (int joined = 0; joined <= 5; joined++) {
            DepositCodes x = Start.made(6);
            for (int k = 0; k < joined; k++) {
                Due.due("joining " + k, x.join(joinings[k][0], joinings[k][1]), 0);
            }
            int paid = 0;
            for (int machine = 0; machine < 6; machine++) {
                paid += x.give(machine, 17, 0, 0, 0);
            }
            Due.due("sets that pay after " + joined + " joinings", paid, 6 - joined);
        }
    }

    private static void termsADoubleCountsForA() {
        DepositCodes x = Start.made(4);
        for (int machine = 0; machine < 4; machine++) {
            x.give(machine, 17, 0, 0, 0);
        }
        Due.due("join(3, 2)", x.join(3, 2), 1);
        Due.due("join(1, 2)", x.join(1, 2), 1);
        Due.due("join(0, 2)", x.join(0, 2), 1);
        dueDouble(x, 0, 3, 2, 17);
        dueDouble(x, 1, 1, 3, 17);
        dueDouble(x, 2, 0, 1, 17);
        for (int machine = 0; machine < 4; machine++) {
            dueRefusedFor7(x, machine, 17);
            Due.due("count(" + machine + ", 0)", x.count(machine, 0), 1);
        }
    }

    private static void promise16NoDoublesYet() {
        DepositCodes x = Start.made(2);
        x.give(0, 17, 0, 0, 0);
        x.give(1, 17, 0, 0, 0);
        int[] asked = {MIN, -1, 0, 1, 199, 200, MAX};
        for (int k : asked) {
            for (int what = -1; what <= 21; what++) {
                Due.due("double2(" + k + ", " + what + ")", x.double2(k, what), NONE);
            }
        }
    }

    private static void promise16DoublesAreFrom0On() {
        DepositCodes x = Start.made(2);
        for (int k = 0; k < 3; k++) {
            x.give(0, Start.serial(k), 0, 0, 0);
            x.give(1, Start.serial(k), 0, 0, 0);
        }
        Due.due("join(0, 1)", x.join(0, 1), 3);
        int[] wrong = {MIN, MIN + 1, -3, -1, 3, 4, 200, 65536, MAX - 1, MAX};
        for (int k : wrong) {
            for (int what = 0; what <= 20; what++) {
                Due.due("double2(" + k + ", " + what + ")", x.double2(k, what), NONE);
            }
        }
        for (int k = 0; k < 3; k++) {
            dueDouble(x, k, 0, 1, Start.serial(k));
        }
    }

    private static void promise16WhatIs0To20() {
        DepositCodes x = Start.made(2);
        x.give(0, LARGEST_GOOD, 0, 0, 0);
        x.give(1, LARGEST_GOOD, 0, 0, 0);
        x.join(1, 0);
        int[] wrong = {MIN, MIN + 1, MIN + 3, -18, -3, -2, -1, 21, 22, 23, 65536, MAX - 1, MAX};
        for (int what : wrong) {
            Due.due("double2(0, " + what + ")", x.double2(0, what), NONE);
        }
        int[] due = {1, 0, 18, 9, 9, 9, 9, 9, 9, 9, 9, 9, 9, 9, 9, 9, 9, 9, 9, 9, 5};
        for (int what = 0; what < due.length; what++) {
            Due.due("double2(0, " + what + ")", x.double2(0, what), due[what]);
        }
    }

    private static void promise16MachinesOfAAndB() {
        for (int a = 0; a < 6; a++) {
            for (int b = 0; b < 6; b++) {
                DepositCodes x = Start.made(6);
                for (int machine = 0; machine < 6; machine++) {
                    x.give(machine, 17, 0, 0, 0);
                }
                Due.due("join(" + a + ", " + b + ")", x.join(a, b), a == b ? 0 : 1);
                Due.due("double2(0, 0)", x.double2(0, 0), a == b ? NONE : a);
                Due.due("double2(0, 1)", x.double2(0, 1), a == b ? NONE : b);
            }
        }
        // The machine that paid is told, which may be another one of the set than the one that was joined.
        DepositCodes x = Start.made(4);
        x.join(0, 1);
        x.join(2, 3);
        x.give(1, 17, 0, 0, 0);
        x.give(3, 17, 0, 0, 0);
        Due.due("join(2, 0)", x.join(2, 0), 1);
        dueDouble(x, 0, 3, 1, 17);
    }

    private static void promise16SerialsOf1To18Decimals() {
        DepositCodes x = Start.made(2);
        long[] serials = new long[18];
        long stem = 1;
        for (int k = 1; k < 18; k++) {
            serials[k] = Start.serial(stem);
            stem = stem * 10 + k % 10;
        }
        for (int k = 17; k >= 0; k--) {
            Due.due("give " + serials[k], x.give(0, serials[k], 0, 0, 0), 1);
            Due.due("give " + serials[k], x.give(1, serials[k], 0, 0, 0), 1);
        }
        Due.due("join(0, 1)", x.join(0, 1), 18);
        for (int k = 0; k < 18; k++) {
            Due.due("double2(" + k + ", 2)", x.double2(k, 2), k + 1);
            dueDouble(x, k, 0, 1, serials[k]);
        }
    }

    private static void promise16SmallestAndLargestOfEachLength() {
        for (int half = 0; half < 2; half++) {
            DepositCodes x = Start.made(2);
            int told = 0;
            long stem = 1;
            for (int decimals = 2; decimals <= 18; decimals++) {
                long serial = Start.serial(half == 0 ? stem : 10 * stem - 1);
                x.give(0, serial, 0, 0, 0);
                x.give(1, serial, 0, 0, 0);
                stem *= 10;
            }
            Due.due("join(0, 1)", x.join(0, 1), 17);
            for (int decimals = 2; decimals <= 18; decimals++) {
                Due.due("double2(" + told + ", 2)", x.double2(told, 2), decimals);
                Due.due("double2(" + told + ", 3)", x.double2(told, 3), half == 0 ? 1 : 9);
                Due.due("double2 of its last", x.double2(told, 2 + decimals) == NONE, false);
                Due.due("double2 behind its last", x.double2(told, 3 + decimals), NONE);
                told++;
            }
        }
    }

    private static void promise16InTheOrderOfTheJoinings() {
        DepositCodes x = Start.made(4);
        long[] serials = {Start.serial(9), Start.serial(5), Start.serial(1)};
        for (int k = 0; k < 3; k++) {
            x.give(0, serials[k], 0, 0, 0);
            x.give(k + 1, serials[k], 0, 0, 0);
        }
        for (int k = 0; k < 3; k++) {
            Due.due("join(0, " + (k + 1) + ")", x.join(0, k + 1), 1);
            for (int told = 0; told <= k; told++) {
                dueDouble(x, told, 0, told + 1, serials[told]);
            }
            Due.due("double2(" + (k + 1) + ", 0)", x.double2(k + 1, 0), NONE);
        }
    }

    private static void promise16SerialsRiseWithinOneJoining() {
        long[] rising = {0, 17, Start.serial(2), 42949672962L, Start.serial(99999999999999998L), LARGEST_GOOD};
        for (int turn = 0; turn < rising.length; turn++) {
            DepositCodes x = Start.made(2);
            for (int k = 0; k < rising.length; k++) {
                x.give(0, rising[(k + turn) % rising.length], 0, 0, 0);
                x.give(1, rising[(2 * rising.length - k - turn) % rising.length], 0, 0, 0);
            }
            Due.due("join(0, 1)", x.join(0, 1), rising.length);
            for (int k = 0; k < rising.length; k++) {
                dueDouble(x, k, 0, 1, rising[k]);
            }
        }
    }

    /** Sets of three machines each, so that the doubles of one joining have different machines on either side. */
    private static void promise16EachDoubleKeepsItsMachines() {
        int[] stems = {40, 10, 60, 20, 50, 30};
        DepositCodes x = Start.made(6);
        x.join(0, 1);
        x.join(2, 1);
        x.join(3, 4);
        x.join(5, 4);
        for (int k = 0; k < stems.length; k++) {
            x.give(k % 3, Start.serial(stems[k]), 0, 0, 0);
            x.give(3 + k / 2, Start.serial(stems[k]), 0, 0, 0);
        }
        Due.due("join(4, 1)", x.join(4, 1), 6);
        int[] places = {1, 3, 5, 0, 4, 2};
        for (int k = 0; k < places.length; k++) {
            dueDouble(x, k, 3 + places[k] / 2, places[k] % 3, Start.serial(stems[places[k]]));
        }
    }

    private static void promise23NoFraudYet() {
        DepositCodes x = Start.made(1);
        dueNoFraudFrom(x, 0);
        x.give(0, 17, 0, 0, 0);
        dueNoFraudFrom(x, 0);
        dueRefusedFor7(x, 0, 17);
        dueRefusedFor7(x, 0, 17);
        dueNoFraudFrom(x, 0);
        dueRefusedFor7(x, 0, 17);
        Due.due("fraud(0)", x.fraud(0), 0);
        dueNoFraudFrom(x, 1);
    }

    private static void promise23EachThirdRefusal() {
        DepositCodes x = Start.made(1);
        x.give(0, 17, 0, 0, 0);
        for (int refusals = 1; refusals <= 31; refusals++) {
            dueRefusedFor7(x, 0, 17);
            int frauds = refusals / 3;
            Due.due("the latest fraud after " + refusals, x.fraud(frauds - 1), frauds == 0 ? NONE : 0);
            Due.due("the next fraud after " + refusals, x.fraud(frauds), NONE);
        }
    }

    private static void promise23OfTheSameSerial() {
        DepositCodes x = Start.made(1);
        for (int k = 0; k < 20; k++) {
            x.give(0, Start.serial(k * 7 % 20), 0, 0, 0);
        }
        for (int round = 0; round < 2; round++) {
            for (int k = 0; k < 20; k++) {
                dueRefusedFor7(x, 0, Start.serial(k));
            }
        }
        dueNoFraudFrom(x, 0);
        for (int k = 19; k >= 0; k--) {
            dueRefusedFor7(x, 0, Start.serial(k));
            Due.due("fraud(" + (19 - k) + ")", x.fraud(19 - k), 0);
            Due.due("fraud(" + (20 - k) + ")", x.fraud(20 - k), NONE);
        }
    }

    private static void promise23WhateverMachines() {
        DepositCodes x = Start.made(6);
        for (int machine = 0; machine < 6; machine++) {
            x.give(machine, 17, 0, 0, 0);
        }
        for (int k = 0; k < 24; k++) {
            dueRefusedFor7(x, k * 5 % 6, 17);
        }
        for (int k = 0; k < 8; k++) {
            Due.due("fraud(" + k + ")", x.fraud(k), (3 * k + 2) * 5 % 6);
        }
        dueNoFraudFrom(x, 8);
    }

    private static void promise23SinceTheBeginning() {
        DepositCodes x = Start.made(3);
        x.give(0, 17, 0, 0, 0);
        dueRefusedFor7(x, 0, 17);
        x.give(1, 17, 0, 0, 0);
        x.join(1, 0);
        x.coupon(1);
        x.clear(0);
        dueRefusedFor7(x, 1, 17);
        x.give(2, 17, 0, 0, 0);
        x.join(2, 0);
        Due.due("fraud(0) after two", x.fraud(0), NONE);
        dueRefusedFor7(x, 2, 17);
        Due.due("fraud(0) after three", x.fraud(0), 2);
        dueRefusedFor7(x, 0, 17);
        dueRefusedFor7(x, 1, 17);
        Due.due("fraud(1) after five", x.fraud(1), NONE);
        dueRefusedFor7(x, 0, 17);
        Due.due("fraud(1) after six", x.fraud(1), 0);
    }

    private static void promise23OnlyForReason7() {
        for (int reason = 1; reason <= 6; reason++) {
            DepositCodes x = Start.made(1);
            x.give(0, 17, 0, 0, 0);
            dueRefusedFor7(x, 0, 17);
            dueRefusedFor7(x, 0, 17);
            x.full(0, reason == 2);
            x.power(0, reason != 3);
            for (int k = 0; k < 6; k++) {
                int shape = reason == 4 ? 1 : 0;
                int weight = reason == 5 ? 10 : 0;
                Due.due("give", x.give(reason == 1 ? 1 : 0, reason == 6 ? 16 : 17, shape, weight, 0), 0);
                Due.due("reason()", x.reason(), reason);
                dueNoFraudFrom(x, 0);
            }
            x.full(0, false);
            x.power(0, true);
            Due.due("give of no second", x.give(0, 17, 0, 0, -1), NONE);
            dueNoFraudFrom(x, 0);
            dueRefusedFor7(x, 0, 17);
            Due.due("fraud(0)", x.fraud(0), 0);
        }
    }

    private static void promise23FraudsAreFrom0On() {
        DepositCodes x = Start.made(2);
        x.join(0, 1);
        x.give(0, 17, 0, 0, 0);
        for (int k = 0; k < 6; k++) {
            dueRefusedFor7(x, k < 3 ? 1 : 0, 17);
        }
        Due.due("fraud(0)", x.fraud(0), 1);
        Due.due("fraud(1)", x.fraud(1), 0);
        dueNoFraudFrom(x, 2);
    }

    /** One machine, one shape and one payment leave 509 calls: 507 refusals and two questions. */
    private static void promise23AsManyAsCallsCanTell() {
        DepositCodes x = Start.made(1);
        x.give(0, 17, 0, 0, 0);
        for (int k = 0; k < 507; k++) {
            x.give(0, 17, 0, 0, 0);
        }
        Due.due("fraud(168)", x.fraud(168), 0);
        Due.due("fraud(169)", x.fraud(169), NONE);
    }

    private static void dueNoFraudFrom(DepositCodes x, int first) {
        int[] wrong = {MIN, MIN + 1, -1, first, first + 1, 170, 65536, MAX - 1, MAX};
        for (int k : wrong) {
            Due.due("fraud(" + k + ")", x.fraud(k), NONE);
        }
    }

    private static void dueRefusedFor7(DepositCodes x, int machine, long serial) {
        Due.due("give(" + machine + ", " + serial + ") again", x.give(machine, serial, 0, 0, 0), 0);
        Due.due("reason()", x.reason(), 7);
    }

    private static void dueDouble(DepositCodes x, int k, int a, int b, long serial) {
        String decimals = Long.toString(serial);
        Due.due("double2(" + k + ", 0)", x.double2(k, 0), a);
        Due.due("double2(" + k + ", 1)", x.double2(k, 1), b);
        Due.due("double2(" + k + ", 2)", x.double2(k, 2), decimals.length());
        for (int what = 3; what <= 20; what++) {
            int due = what - 3 < decimals.length() ? decimals.charAt(what - 3) - '0' : NONE;
            Due.due("double2(" + k + ", " + what + ") of " + serial, x.double2(k, what), due);
        }
    }
}
