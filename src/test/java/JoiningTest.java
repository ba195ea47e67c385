/** Promises 15, 16 and 23: joinings, doubles, frauds. */
public final class JoiningTest {
    private static final int NONE = DepositCodes.NONE;

    public static void main(String[] args) {
        wrongMachines();
        joinedMachinesPayOnce();
        theFirstPaymentGoesWithItsSet();
        joinedOnesOfJoinedOnesAreOneSet();
        doublesRiseWithinOneJoining();
        aDoubleCountsForTheSetOfA();
        machinesMadeAfterAJoiningAreAlone();
        decimalsOfADouble();
        manyDoubles();
        frauds();
        fraudsOverSets();
        onlyReasonSevenIsFraud();
        asManyFraudsAsCallsCanTell();
        Due.end("JoiningTest");
    }

    private static void wrongMachines() {
        DepositCodes x = new DepositCodes();
        Due.due("join(0, 0) without machines", x.join(0, 0), NONE);
        x.machine();
        x.machine();
        x.shape(0, 0, 9);
        Due.due("join(0, 2)", x.join(0, 2), NONE);
        Due.due("join(2, 0)", x.join(2, 0), NONE);
        Due.due("join(2, 2)", x.join(2, 2), NONE);
        Due.due("join(-1, 0)", x.join(-1, 0), NONE);
        Due.due("join(MAX, MIN)", x.join(Integer.MAX_VALUE, Integer.MIN_VALUE), NONE);
        Due.due("give(0)", x.give(0, 0, 0, 0, 0), 1);
        Due.due("give(1), still another set", x.give(1, 0, 0, 0, 0), 1);
        Due.due("double2(0, 0)", x.double2(0, 0), NONE);
    }

    private static void joinedMachinesPayOnce() {
        DepositCodes x = Start.made(2);
        Due.due("join(0, 0)", x.join(0, 0), 0);
        x.give(0, Start.serial(1), 0, 0, 0);
        x.give(1, Start.serial(2), 0, 0, 0);
        Due.due("join(0, 1)", x.join(0, 1), 0);
        Due.due("join(0, 1) again", x.join(0, 1), 0);
        Due.due("join(1, 0) again", x.join(1, 0), 0);
        Due.due("give of the other's", x.give(1, Start.serial(1), 0, 0, 0), 0);
        Due.due("reason()", x.reason(), 7);
        Due.due("give of the other's", x.give(0, Start.serial(2), 0, 0, 0), 0);
        Due.due("reason()", x.reason(), 7);
        Due.due("give of a new one", x.give(0, Start.serial(3), 0, 0, 0), 1);
        Due.due("give of it to the other", x.give(1, Start.serial(3), 0, 0, 0), 0);
    }

    private static void theFirstPaymentGoesWithItsSet() {
        DepositCodes x = Start.made(2);
        x.give(1, Start.serial(1), 0, 0, 0);
        x.join(0, 1);
        Due.due("give of what B paid to A", x.give(0, Start.serial(1), 0, 0, 0), 0);
        Due.due("give of what B paid to B", x.give(1, Start.serial(1), 0, 0, 0), 0);
    }

    private static void joinedOnesOfJoinedOnesAreOneSet() {
        DepositCodes x = Start.made(6);
        Due.due("join(4, 5)", x.join(4, 5), 0);
        Due.due("join(0, 1)", x.join(0, 1), 0);
        x.give(4, Start.serial(1), 0, 0, 0);
        x.give(1, Start.serial(1), 0, 0, 0);
        x.give(3, Start.serial(1), 0, 0, 0);
        Due.due("join(0, 5)", x.join(0, 5), 1);
        Due.due("double2(0, 0)", x.double2(0, 0), 1);
        Due.due("double2(0, 1)", x.double2(0, 1), 4);
        Due.due("join(1, 4)", x.join(1, 4), 0);
        x.give(5, Start.serial(2), 0, 0, 0);
        Due.due("give(0) of what 5 paid", x.give(0, Start.serial(2), 0, 0, 0), 0);
        Due.due("give(2) of what 5 paid", x.give(2, Start.serial(2), 0, 0, 0), 1);
        Due.due("join(3, 4)", x.join(3, 4), 1);
        Due.due("double2(1, 0)", x.double2(1, 0), 3);
        Due.due("double2(1, 1)", x.double2(1, 1), 1);
        Due.due("join(5, 2)", x.join(5, 2), 1);
        Due.due("double2(2, 0)", x.double2(2, 0), 5);
        Due.due("double2(2, 1)", x.double2(2, 1), 2);
    }

    private static void doublesRiseWithinOneJoining() {
        DepositCodes x = Start.made(3);
        int[] stems = {50, 7, 90, 1, 30};
        for (int stem : stems) {
            x.give(0, Start.serial(stem), 0, 0, 0);
        }
        for (int k = stems.length - 1; k >= 0; k--) {
            x.give(k % 2 == 0 ? 1 : 2, Start.serial(stems[k]), 0, 0, 0);
        }
        Due.due("join(1, 0)", x.join(1, 0), 3);
        Due.due("join(1, 2)", x.join(1, 2), 2);
        int[] order = {30, 50, 90, 1, 7};
        for (int k = 0; k < order.length; k++) {
            dueSerial(x, k, Start.serial(order[k]));
            Due.due("double2(" + k + ", 0)", x.double2(k, 0), k < 3 ? 1 : 0);
            Due.due("double2(" + k + ", 1)", x.double2(k, 1), k < 3 ? 0 : 2);
        }
        Due.due("double2(5, 0)", x.double2(5, 0), NONE);
        Due.due("double2(5, 2)", x.double2(5, 2), NONE);
        Due.due("double2(5, 3)", x.double2(5, 3), NONE);
        Due.due("double2(-1, 0)", x.double2(-1, 0), NONE);
        Due.due("double2(0, -1)", x.double2(0, -1), NONE);
        Due.due("double2(MIN, MAX)", x.double2(Integer.MIN_VALUE, Integer.MAX_VALUE), NONE);
        Due.due("double2(0, MIN)", x.double2(0, Integer.MIN_VALUE), NONE);
        Due.due("double2(0, MAX)", x.double2(0, Integer.MAX_VALUE), NONE);
    }

    private static void aDoubleCountsForTheSetOfA() {
        DepositCodes x = Start.made(4);
        for (int machine = 0; machine < 4; machine++) {
            x.give(machine, Start.serial(8), 0, 0, 0);
        }
        Due.due("join(1, 0)", x.join(1, 0), 1);
        Due.due("join(2, 3)", x.join(2, 3), 1);
        Due.due("join(0, 3)", x.join(0, 3), 1);
        Due.due("double2(2, 0)", x.double2(2, 0), 1);
        Due.due("double2(2, 1)", x.double2(2, 1), 2);
        Due.due("machine()", x.machine(), 4);
        x.give(4, Start.serial(8), 0, 0, 0);
        Due.due("join(4, 3)", x.join(4, 3), 1);
        Due.due("double2(3, 0)", x.double2(3, 0), 4);
        Due.due("double2(3, 1)", x.double2(3, 1), 1);
        Due.due("machine()", x.machine(), 5);
        x.give(5, Start.serial(8), 0, 0, 0);
        Due.due("join(0, 5)", x.join(0, 5), 1);
        Due.due("double2(4, 0)", x.double2(4, 0), 4);
        for (int machine = 0; machine < 6; machine++) {
            Due.due("count(" + machine + ", 0) stays", x.count(machine, 0), 1);
            Due.due("give(" + machine + ")", x.give(machine, Start.serial(8), 0, 0, 0), 0);
        }
    }

    private static void machinesMadeAfterAJoiningAreAlone() {
        DepositCodes x = Start.made(2);
        x.join(1, 0);
        x.give(0, Start.serial(5), 0, 0, 0);
        Due.due("machine()", x.machine(), 2);
        Due.due("give(2)", x.give(2, Start.serial(5), 0, 0, 0), 1);
        Due.due("give(1)", x.give(1, Start.serial(5), 0, 0, 0), 0);
    }

    private static void decimalsOfADouble() {
        DepositCodes x = Start.made(2);
        long[] serials = {
            0, Start.serial(1), Start.serial(10), Start.serial(12345678901234567L), Start.serial(99999999999999999L),
        };
        for (long serial : serials) {
            x.give(0, serial, 0, 0, 0);
            x.give(1, serial, 0, 0, 0);
        }
        Due.due("join(0, 1)", x.join(0, 1), serials.length);
        for (int k = 0; k < serials.length; k++) {
            dueSerial(x, k, serials[k]);
            Due.due("double2(" + k + ", 21)", x.double2(k, 21), NONE);
        }
    }

    private static void manyDoubles() {
        DepositCodes x = Start.made(6);
        for (int k = 0; k < 198; k++) {
            Due.due("give " + k, x.give(k % 6, Start.serial(500 - k / 6), 0, 0, 0), 1);
        }
        for (int machine = 1; machine < 6; machine++) {
            Due.due("join(0, " + machine + ")", x.join(0, machine), 33);
        }
        for (int k = 0; k < 165; k += 4) {
            Due.due("double2(" + k + ", 0)", x.double2(k, 0), 0);
            Due.due("double2(" + k + ", 1)", x.double2(k, 1), 1 + k / 33);
        }
        dueSerial(x, 0, Start.serial(468));
        dueSerial(x, 164, Start.serial(500));
        Due.due("double2(165, 0)", x.double2(165, 0), NONE);
    }

    private static void frauds() {
        DepositCodes x = Start.made(2);
        Due.due("fraud(0) of a new object", x.fraud(0), NONE);
        x.join(0, 1);
        x.give(0, Start.serial(1), 0, 0, 0);
        x.give(0, Start.serial(2), 0, 0, 0);
        for (int k = 1; k <= 7; k++) {
            x.give(k % 2, Start.serial(1), 0, 0, 0);
            Due.due("fraud(0) after " + k, x.fraud(0), k < 3 ? NONE : 1);
            Due.due("fraud(1) after " + k, x.fraud(1), k < 6 ? NONE : 0);
        }
        x.give(1, Start.serial(2), 0, 0, 0);
        x.give(1, Start.serial(2), 0, 0, 0);
        Due.due("fraud(2) after two of another", x.fraud(2), NONE);
        x.give(0, Start.serial(2), 0, 0, 0);
        Due.due("fraud(2)", x.fraud(2), 0);
        Due.due("fraud(3)", x.fraud(3), NONE);
        Due.due("fraud(-1)", x.fraud(-1), NONE);
        Due.due("fraud(MAX)", x.fraud(Integer.MAX_VALUE), NONE);
        Due.due("fraud(MIN)", x.fraud(Integer.MIN_VALUE), NONE);
    }

    private static void fraudsOverSets() {
        DepositCodes x = Start.made(3);
        x.give(0, Start.serial(1), 0, 0, 0);
        x.give(2, Start.serial(1), 0, 0, 0);
        x.give(0, Start.serial(1), 0, 0, 0);
        x.give(2, Start.serial(1), 0, 0, 0);
        Due.due("fraud(0) after two", x.fraud(0), NONE);
        x.join(2, 0);
        Due.due("fraud(0) after the joining", x.fraud(0), NONE);
        x.give(1, Start.serial(1), 0, 0, 0);
        Due.due("fraud(0) after another payment", x.fraud(0), NONE);
        x.give(2, Start.serial(1), 0, 0, 0);
        Due.due("fraud(0) after three", x.fraud(0), 2);
        Due.due("fraud(1)", x.fraud(1), NONE);
    }

    private static void onlyReasonSevenIsFraud() {
        DepositCodes x = Start.made(1);
        x.give(0, Start.serial(1), 0, 0, 0);
        x.give(0, Start.serial(1), 0, 0, 0);
        x.give(0, Start.serial(1), 0, 0, 0);
        x.give(3, Start.serial(1), 0, 0, 0);
        x.give(0, Start.serial(1), 0, 10, 0);
        x.give(0, Start.serial(1), 1, 0, 0);
        x.give(0, Start.serial(1) + 1, 0, 0, 0);
        x.give(0, Start.serial(1), 0, 0, -1);
        x.full(0, true);
        x.give(0, Start.serial(1), 0, 0, 0);
        x.full(0, false);
        x.power(0, false);
        x.give(0, Start.serial(1), 0, 0, 0);
        x.power(0, true);
        Due.due("fraud(0) after two for reason 7", x.fraud(0), NONE);
        x.give(0, Start.serial(1), 0, 0, 0);
        Due.due("fraud(0) after three for reason 7", x.fraud(0), 0);
    }

    private static void asManyFraudsAsCallsCanTell() {
        DepositCodes x = Start.made(1);
        x.give(0, 0, 0, 0, 0);
        for (int k = 0; k < 507; k++) {
            x.give(0, 0, 0, 0, 0);
        }
        Due.due("fraud(168)", x.fraud(168), 0);
        Due.due("fraud(169)", x.fraud(169), NONE);
    }

    private static void dueSerial(DepositCodes x, int k, long serial) {
        String decimals = Long.toString(serial);
        Due.due("double2(" + k + ", 2)", x.double2(k, 2), decimals.length());
        for (int what = 3; what <= 20; what++) {
            int due = what - 3 < decimals.length() ? decimals.charAt(what - 3) - '0' : NONE;
            Due.due("double2(" + k + ", " + what + ") of " + serial, x.double2(k, what), due);
        }
    }
}
