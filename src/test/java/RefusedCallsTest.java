import java.util.ArrayList;
import java.util.List;
import java.util.function.Consumer;
import java.util.function.ToLongFunction;

/**
 * "Such calls change nothing": refused calls, and questions, are made at one of two objects that are alike; both are
 * then asked for what an object can tell, also by calls that use it up.
 */
public final class RefusedCallsTest {
    private static final int NONE = DepositCodes.NONE;
    private static final long NUMBERS_END = 1000000000000000000L;
    private static final long SECONDS_END = 100000000001L;
    /** Stands for digit()'s exception among the answers. */
    private static final long THROWN = Long.MIN_VALUE;

    private record Call(String name, ToLongFunction<DepositCodes> made, long due) {
    }

    private record State(String name, int machines, int coupons, Consumer<DepositCodes> made) {
    }

    public static void main(String[] args) {
        List<State> states = List.of(
            new State("a new object", 0, 0, x -> { }),
            new State("one in use", 4, 3, RefusedCallsTest::useIt),
            new State("one that is used up", 6, 7, RefusedCallsTest::useItUp));
        for (State state : states) {
            List<Long> before = answersAfter(state, x -> 0L);
            for (Call call : refused(state)) {
                dueUnchanged(state, call, before);
            }
            for (Call call : questions(state)) {
                dueUnchanged(state, call, before);
            }
            refusedGivingsChangeTheReasonAlone(state);
        }
        Due.end("RefusedCallsTest");
    }

    private static void dueUnchanged(State state, Call call, List<Long> before) {
        List<Long> after = answersAfter(state, x -> {
            long got = call.made().applyAsLong(x);
            Due.due(call.name() + " of " + state.name(), got, call.due());
            return got;
        });
        Due.due(call.name() + " leaves " + state.name() + " as it was", after.equals(before), true);
    }

    /** All but the reason is as it was, so both objects get one more refused giving that sets the reason. */
    private static void refusedGivingsChangeTheReasonAlone(State state) {
        if (state.machines() != 4) {
            return;
        }
        ToLongFunction<DepositCodes> nowhere = x -> x.give(-1, 0, 0, 0, 0);
        List<Long> before = answersAfter(state, nowhere);
        long good = Start.serial(77);
        List<Call> calls = List.of(
            new Call("1", x -> x.give(4, good, 0, 5, 0), 1),
            new Call("2", x -> x.give(1, good, 0, 5, 0), 2),
            new Call("3", x -> x.give(2, good, 0, 5, 0), 3),
            new Call("4", x -> x.give(0, good, 3, 5, 0), 4),
            new Call("5", x -> x.give(0, good, 0, 4, 0), 5),
            new Call("5, too heavy", x -> x.give(0, good, 0, 11, 0), 5),
            new Call("6", x -> x.give(0, good + 1, 0, 5, 0), 6));
        for (Call call : calls) {
            List<Long> after = answersAfter(state, x -> {
                Due.due("a giving refused for " + call.name(), call.made().applyAsLong(x), 0);
                Due.due("reason()", x.reason(), call.due());
                return nowhere.applyAsLong(x);
            });
            Due.due("a giving refused for " + call.name() + " pays nothing", after.equals(before), true);
        }
    }

    /** Four machines, 1 is full, 2 has no power; two doubles, one fraud, two refusals of another serial. */
    private static void useIt(DepositCodes x) {
        makeMachines(x, 4);
        writeCode(x);
        Due.due("read()", x.read(), 1);
        x.width(9, 8);
        x.shape(0, 5, 10);
        x.shape(7, 0, 100000);
        for (int k = 0; k < 4; k++) {
            x.give(k, Start.serial(1), 0, 5, 0);
            x.give(k, Start.serial(2 + k), 7, 100000, 2592000);
            x.give(k, Start.serial(9 - k), 7, 0, 2592000);
        }
        for (int k = 0; k < 5; k++) {
            x.give(0, Start.serial(2), 7, 50, 0);
        }
        Due.due("join(3, 0)", x.join(3, 0), 1);
        Due.due("coupon(3)", x.coupon(3), 0);
        Due.due("coupon(1)", x.coupon(1), 1);
        Due.due("coupon(2)", x.coupon(2), 2);
        Due.due("redeem(1, 99)", x.redeem(1, 99), true);
        x.give(1, Start.serial(20), 0, 6, 0);
        x.give(2, Start.serial(21), 0, 6, 0);
        x.full(1, true);
        x.power(2, false);
        Due.due("clear(1)", x.clear(1) > 0, true);
        Due.due("fraud(0)", x.fraud(0), 0);
        Due.due("give of what is not good", x.give(0, 11, 0, 5, 0), 0);
    }

    /** All machines, shapes, bars and payments that there can be. */
    private static void useItUp(DepositCodes x) {
        makeMachines(x, 6);
        writeCode(x);
        Due.due("back()", x.back(), 1);
        x.width(62, 1000);
        x.width(63, 1000);
        for (int shape = 0; shape < 8; shape++) {
            x.shape(shape, 0, 10 * shape);
        }
        for (int k = 0; k < 199; k++) {
            x.give(k % 6, Start.serial(k / 2), k % 8, 0, 2592000L * (k % 2));
        }
        for (int k = 0; k < 3; k++) {
            x.give(0, Start.serial(0), 0, 0, 0);
        }
        Due.due("join(1, 0)", x.join(1, 0) > 0, true);
        for (int machine = 0; machine < 6; machine++) {
            x.coupon(machine);
        }
        x.redeem(0, 0);
        x.redeem(5, 99);
        Due.due("the 200th", x.give(5, Start.serial(500), 7, 70, 0), 1);
        Due.due("coupon(5)", x.coupon(5), 6);
        Due.due("clear(0)", x.clear(0) > 0, true);
    }

    private static void makeMachines(DepositCodes x, int count) {
        for (int k = 0; k < count; k++) {
            Due.due("machine()", x.machine(), k);
        }
    }

    private static void writeCode(DepositCodes x) {
        int[] row = {2, 2, 2, 1, 2, 3, 1, 3, 3, 3};
        for (int k = 0; k < row.length; k++) {
            x.width(k, row[k]);
        }
    }

    private static List<Call> refused(State state) {
        List<Call> calls = new ArrayList<>();
        for (int k : outside(64)) {
            calls.add(new Call("width(" + k + ", 2)", x -> bit(x.width(k, 2)), 0));
            calls.add(new Call("width(" + k + ", 0)", x -> bit(x.width(k, 0)), 0));
            calls.add(new Call("digit(" + k + ")", x -> digitOf(x, k), THROWN));
        }
        for (int v : outside(1001)) {
            calls.add(new Call("width(0, " + v + ")", x -> bit(x.width(0, v)), 0));
            calls.add(new Call("width(5, " + v + ")", x -> bit(x.width(5, v)), 0));
        }
        if (state.machines() == 6) {
            calls.add(new Call("machine()", x -> x.machine(), NONE));
        }
        addShapes(calls);
        addMachines(calls, state.machines());
        addGivings(calls, state.machines() == 6);
        addMoney(calls, state.coupons());
        return calls;
    }

    private static void addShapes(List<Call> calls) {
        for (int shape : outside(8)) {
            calls.add(new Call("shape(" + shape + ", 1, 2)", x -> bit(x.shape(shape, 1, 2)), 0));
        }
        int[][] wrong = {
            {-1, 5}, {Integer.MIN_VALUE, 5}, {5, 100001}, {5, Integer.MAX_VALUE}, {6, 5}, {100000, 99999},
            {Integer.MAX_VALUE, Integer.MIN_VALUE}, {Integer.MIN_VALUE, Integer.MAX_VALUE}, {100001, 100001}, {-1, -1},
        };
        for (int[] span : wrong) {
            String name = ", " + span[0] + ", " + span[1] + ")";
            for (int shape = 0; shape < 8; shape += 7) {
                int told = shape;
                calls.add(new Call("shape(" + told + name, x -> bit(x.shape(told, span[0], span[1])), 0));
            }
        }
    }

    private static void addMachines(List<Call> calls, int machines) {
        for (int m : outside(machines)) {
            String name = "(" + m + ")";
            calls.add(new Call("full" + name, x -> bit(x.full(m, true)), 0));
            calls.add(new Call("full off" + name, x -> bit(x.full(m, false)), 0));
            calls.add(new Call("power" + name, x -> bit(x.power(m, true)), 0));
            calls.add(new Call("power off" + name, x -> bit(x.power(m, false)), 0));
            calls.add(new Call("coupon" + name, x -> x.coupon(m), NONE));
            calls.add(new Call("join twice" + name, x -> x.join(m, m), NONE));
            calls.add(new Call("join A" + name, x -> x.join(m, 0), NONE));
            calls.add(new Call("join B" + name, x -> x.join(0, m), NONE));
            calls.add(new Call("count" + name, x -> x.count(m, 0), NONE));
        }
        for (int shape : outside(8)) {
            calls.add(new Call("count(0, " + shape + ")", x -> x.count(0, shape), NONE));
        }
        if (machines == 4) {
            calls.add(new Call("coupon(2) without power", x -> x.coupon(2), NONE));
            calls.add(new Call("coupon(3) for nothing", x -> x.coupon(3), NONE));
        }
        for (int k = 0; k < machines; k++) {
            int m = k;
            calls.add(new Call("join(" + m + " twice)", x -> x.join(m, m), 0));
        }
    }

    private static void addGivings(List<Call> calls, boolean usedUp) {
        long[] serials = {Long.MIN_VALUE, -17, -1, NUMBERS_END, NUMBERS_END + 9, Long.MAX_VALUE};
        for (long serial : serials) {
            calls.add(new Call("give of " + serial, x -> x.give(0, serial, 0, 5, 0), NONE));
            calls.add(new Call("give of " + serial + " nowhere", x -> x.give(9, serial, 9, 5, 0), NONE));
        }
        long[] seconds = {Long.MIN_VALUE, -1, SECONDS_END, Long.MAX_VALUE};
        long good = Start.serial(77);
        for (long second : seconds) {
            calls.add(new Call("give at " + second, x -> x.give(0, good, 0, 5, second), NONE));
            calls.add(new Call("give of a paid one at " + second, x -> x.give(0, 17, 0, 5, second), NONE));
            calls.add(new Call("give nowhere at " + second, x -> x.give(9, good, 9, 5, second), NONE));
        }
        if (usedUp) {
            calls.add(new Call("give of a new one", x -> x.give(0, Start.serial(600), 0, 0, 0), NONE));
            calls.add(new Call("give of a paid one", x -> x.give(0, 0, 0, 0, 0), NONE));
            calls.add(new Call("give of what is not good", x -> x.give(0, 1, 0, 0, 0), NONE));
            calls.add(new Call("give nowhere", x -> x.give(6, 0, 0, 0, 0), NONE));
        }
    }

    private static void addMoney(List<Call> calls, int coupons) {
        for (int coupon : outside(coupons)) {
            calls.add(new Call("redeem(" + coupon + ", 0)", x -> bit(x.redeem(coupon, 0)), 0));
        }
        for (int shop : outside(100)) {
            calls.add(new Call("redeem(0, " + shop + ")", x -> bit(x.redeem(0, shop)), 0));
            calls.add(new Call("redeem(2, " + shop + ")", x -> bit(x.redeem(2, shop)), 0));
            calls.add(new Call("shop(" + shop + ")", x -> x.shop(shop), NONE));
        }
        if (coupons == 3) {
            calls.add(new Call("redeem(1, 98) again", x -> bit(x.redeem(1, 98)), 0));
            calls.add(new Call("redeem(1, 99) again", x -> bit(x.redeem(1, 99)), 0));
        }
        for (int month : outside(40001)) {
            calls.add(new Call("clear(" + month + ")", x -> x.clear(month), NONE));
        }
        for (int system : outside(3)) {
            calls.add(new Call("cleared(" + system + ")", x -> x.cleared(system), 0));
        }
        for (int k : outside(200)) {
            calls.add(new Call("fraud(" + k + ")", x -> x.fraud(k), NONE));
            calls.add(new Call("double2(" + k + ", 0)", x -> x.double2(k, 0), NONE));
        }
        for (int what : outside(21)) {
            calls.add(new Call("double2(0, " + what + ")", x -> x.double2(0, what), NONE));
        }
    }

    /** Questions that have an answer change as little as those that have none. */
    private static List<Call> questions(State state) {
        List<Call> calls = new ArrayList<>();
        calls.add(new Call("check(0, 1)", x -> x.check(0, 1), 7));
        calls.add(new Call("check(1, 1)", x -> x.check(1, 1), 8));
        calls.add(new Call("check(2, 1)", x -> x.check(2, 1), NONE));
        calls.add(new Call("check(0, -1)", x -> x.check(0, -1), NONE));
        calls.add(new Call("good(0, 17)", x -> bit(x.good(0, 17)), 1));
        calls.add(new Call("good(-1, 17)", x -> bit(x.good(-1, 17)), 0));
        calls.add(new Call("good(0, 10^18)", x -> bit(x.good(0, NUMBERS_END)), 0));
        calls.add(new Call("mark(1, 1, 120)", x -> bit(x.mark(1, 1, 120)), 1));
        calls.add(new Call("mark(1, 1, 121)", x -> bit(x.mark(1, 1, 121)), 0));
        calls.add(new Call("mark(-1, 1, 120)", x -> bit(x.mark(-1, 1, 120)), 0));
        if (state.machines() == 4) {
            calls.add(new Call("digit(0)", x -> x.digit(0), 5));
            calls.add(new Call("digit(1)", x -> digitOf(x, 1), THROWN));
            calls.add(new Call("reason()", x -> x.reason(), 6));
            calls.add(new Call("count(3, 0)", x -> x.count(3, 0), 1));
            calls.add(new Call("double2(0, 0)", x -> x.double2(0, 0), 3));
            calls.add(new Call("double2(0, 1)", x -> x.double2(0, 1), 0));
            calls.add(new Call("double2(0, 4)", x -> x.double2(0, 4), 7));
            calls.add(new Call("shop(99)", x -> x.shop(99), 75));
            // In month 1 machines 0 and 3 paid four; three of the eight serials are of system 0.
            calls.add(new Call("cleared(0)", x -> x.cleared(0), -25));
            calls.add(new Call("fraud(0)", x -> x.fraud(0), 0));
            calls.add(new Call("join(0, 3) again", x -> x.join(0, 3), 0));
        }
        return calls;
    }

    private static List<Long> answersAfter(State state, ToLongFunction<DepositCodes> call) {
        DepositCodes x = new DepositCodes();
        state.made().accept(x);
        call.applyAsLong(x);
        List<Long> answers = new ArrayList<>();
        askBars(x, answers);
        askWhatWas(x, answers);
        useCoupons(x, answers, 42);
        useMachines(x, answers, 0);
        askBalances(x, answers);
        for (int machine = 0; machine < 6; machine++) {
            answers.add(bit(x.full(machine, false)));
            answers.add(bit(x.power(machine, true)));
        }
        useMachines(x, answers, 200);
        useCoupons(x, answers, 43);
        useSets(x, answers);
        return answers;
    }

    private static void askBars(DepositCodes x, List<Long> answers) {
        answers.add((long) x.reason());
        answers.add(digitOf(x, 0));
        answers.add(digitOf(x, 1));
        answers.add((long) x.read());
        x.width(9, 3);
        answers.add((long) x.read());
        answers.add(digitOf(x, 0));
    }

    private static void askWhatWas(DepositCodes x, List<Long> answers) {
        for (int k = 0; k < 18; k++) {
            answers.add(x.count(k / 3, k % 3 * 3));
        }
        for (int k = 0; k < 8; k++) {
            answers.add((long) x.double2(k / 4, k % 4 + k / 7));
        }
        for (int k = 0; k < 3; k++) {
            answers.add(x.cleared(k));
            answers.add((long) x.fraud(k));
        }
        answers.add(x.shop(0));
        answers.add(x.shop(99));
    }

    private static void useCoupons(DepositCodes x, List<Long> answers, int shop) {
        for (int machine = 0; machine < 6; machine++) {
            answers.add((long) x.coupon(machine));
        }
        for (int coupon = 0; coupon < 13; coupon++) {
            answers.add(bit(x.redeem(coupon, shop)));
            answers.add(x.shop(shop));
        }
    }

    /** Shapes with their spans, powers, sets with what they paid: all that givings show. */
    private static void useMachines(DepositCodes x, List<Long> answers, int stems) {
        answers.add((long) x.machine());
        for (int machine = 0; machine < 6; machine++) {
            give(x, answers, machine, Start.serial(stems + 30 + machine), machine == 5 ? 7 : 0, 5);
            give(x, answers, machine, Start.serial(2), 7, 1);
        }
        for (int shape = 0; shape < 8; shape++) {
            give(x, answers, 0, Start.serial(stems + 50 + shape), shape, shape == 0 ? 4 : 100000);
        }
        answers.add((long) x.fraud(1));
    }

    private static void give(DepositCodes x, List<Long> answers, int machine, long serial, int shape, int weight) {
        answers.add((long) x.give(machine, serial, shape, weight, 2592000));
        answers.add((long) x.reason());
    }

    private static void askBalances(DepositCodes x, List<Long> answers) {
        for (int month = 0; month < 2; month++) {
            answers.add((long) x.clear(month));
            for (int system = 0; system < 3; system++) {
                answers.add(x.cleared(system));
            }
        }
    }

    private static void useSets(DepositCodes x, List<Long> answers) {
        for (int machine = 1; machine < 6; machine++) {
            answers.add((long) x.join(0, machine));
            answers.add((long) x.double2(machine, 1));
        }
        for (int k = 0; k < 3; k++) {
            answers.add((long) x.double2(k, 0));
            answers.add((long) x.fraud(k));
        }
    }

    private static int[] outside(int end) {
        return new int[] {Integer.MIN_VALUE, Integer.MIN_VALUE + 1, -1, end, end + 1, Integer.MAX_VALUE};
    }

    private static long digitOf(DepositCodes x, int k) {
        try {
            return x.digit(k);
        } catch (ArrayIndexOutOfBoundsException e) {
            return THROWN;
        }
    }

    private static long bit(boolean answer) {
        return answer ? 1 : 0;
    }
}
