import java.util.Map;
import java.util.TreeMap;

/** One object of the class and one of the model: each call is made at both, and their answers must be the same. */
final class Both {
    private static final int NONE = DepositCodes.NONE;

    private final String run;
    private final DepositCodes x = new DepositCodes();
    private final Model model = new Model();
    private final Map<String, Integer> made = new TreeMap<>();
    private int calls = 0;

    Both(String run) {
        this.run = run;
    }

    int calls() {
        return calls;
    }

    /** How often each method was called. */
    Map<String, Integer> made() {
        return made;
    }

    long width(int k, int v) {
        return same("width", x.width(k, v), model.width(k, v), k, v);
    }

    long read() {
        return same("read", x.read(), model.read());
    }

    long back() {
        return same("back", x.back(), model.back());
    }

    /** NONE stands for the exception. */
    long digit(int k) {
        long got;
        try {
            got = x.digit(k);
        } catch (ArrayIndexOutOfBoundsException e) {
            got = NONE;
        }
        return same("digit", got, model.digit(k), k);
    }

    long check(int kind, long number) {
        return same("check", x.check(kind, number), model.check(kind, number), kind, number);
    }

    long good(int kind, long number) {
        return same("good", x.good(kind, number), model.good(kind, number), kind, number);
    }

    long machine() {
        return same("machine", x.machine(), model.machine());
    }

    long shape(int shape, int least, int most) {
        return same("shape", x.shape(shape, least, most), model.shape(shape, least, most), shape, least, most);
    }

    long full(int machine, boolean on) {
        return same("full", x.full(machine, on), model.full(machine, on), machine, on ? 1 : 0);
    }

    long power(int machine, boolean on) {
        return same("power", x.power(machine, on), model.power(machine, on), machine, on ? 1 : 0);
    }

    long give(int machine, long serial, int shape, int weight, long second) {
        return same("give", x.give(machine, serial, shape, weight, second),
            model.give(machine, serial, shape, weight, second), machine, serial, shape, weight, second);
    }

    long reason() {
        return same("reason", x.reason(), model.reason());
    }

    long count(int machine, int shape) {
        return same("count", x.count(machine, shape), model.count(machine, shape), machine, shape);
    }

    long join(int a, int b) {
        return same("join", x.join(a, b), model.join(a, b), a, b);
    }

    long double2(int k, int what) {
        return same("double2", x.double2(k, what), model.double2(k, what), k, what);
    }

    long mark(long serial, long key, long shown) {
        return same("mark", x.mark(serial, key, shown), model.mark(serial, key, shown), serial, key, shown);
    }

    long coupon(int machine) {
        return same("coupon", x.coupon(machine), model.coupon(machine), machine);
    }

    long redeem(int coupon, int shop) {
        return same("redeem", x.redeem(coupon, shop), model.redeem(coupon, shop), coupon, shop);
    }

    long shop(int shop) {
        return same("shop", x.shop(shop), model.shop(shop), shop);
    }

    long clear(int month) {
        return same("clear", x.clear(month), model.clear(month), month);
    }

    long cleared(int system) {
        return same("cleared", x.cleared(system), model.cleared(system), system);
    }

    long fraud(int k) {
        return same("fraud", x.fraud(k), model.fraud(k), k);
    }

    private long same(String method, boolean got, boolean want, long... arguments) {
        return same(method, got ? 1L : 0L, want ? 1L : 0L, arguments);
    }

    private long same(String method, long got, long want, long... arguments) {
        calls++;
        made.merge(method, 1, Integer::sum);
        Due.due(() -> run + ", call " + calls + ": " + method + written(arguments), got, want);
        return got;
    }

    private static String written(long[] arguments) {
        StringBuilder text = new StringBuilder("(");
        for (int k = 0; k < arguments.length; k++) {
            text.append(k == 0 ? "" : ", ").append(arguments[k]);
        }
        return text.append(')').toString();
    }
}
