import java.util.Random;

/** All promises: the same runs of 512 calls at the class and at the model, with ordinary and wild arguments. */
public final class RandomRunsTest {
    private static final int RUNS = 3000;
    private static final int CALLS = 512;
    private static final int CALLS_BEFORE_LOOKING = 420;
    private static final int[] WILD_INTS = {
        Integer.MIN_VALUE, -2, -1, 0, 1, 6, 7, 8, 21, 63, 64, 99, 100, 1000, 1001, 40000, 40001, 100000, 100001,
        Integer.MAX_VALUE,
    };
    private static final long[] WILD_LONGS = {
        Long.MIN_VALUE, -99991, -1, 0, 1, 9, 10, 99991, 100000000000L, 100000000001L, 999999999999999999L,
        1000000000000000000L, Long.MAX_VALUE,
    };
    private static final String[] PATTERNS = {
        "3211", "2221", "2122", "1411", "1132", "1231", "1114", "1312", "1213", "3112",
    };

    private final Random random;
    private final DepositCodes x = new DepositCodes();
    private final Model model = new Model();
    private final boolean wild;
    private final int stems;
    private int calls = 0;
    private int paid = 0;

    private RandomRunsTest(int seed) {
        random = new Random(seed);
        wild = seed % 5 == 0;
        stems = 3 + random.nextInt(seed % 3 == 0 ? 900 : 12);
    }

    public static void main(String[] args) {
        for (int seed = 0; seed < RUNS; seed++) {
            new RandomRunsTest(seed).run(seed % 4);
        }
        stressBeyondTheLastCall();
        Due.end("RandomRunsTest");
    }

    private void run(int focus) {
        begin();
        int gives = focus == 3 ? 92 : 60;
        while (calls < CALLS_BEFORE_LOOKING) {
            int kind = random.nextInt(100);
            if (focus == 0 && kind < gives) {
                bars();
            } else if (kind < gives) {
                give();
            } else if (kind < 70) {
                numbers();
            } else if (kind < 85) {
                states();
            } else {
                money();
            }
        }
        look();
    }

    private void begin() {
        for (int k = random.nextInt(7); k > 0; k--) {
            same("machine()", x.machine(), model.machine());
        }
        for (int shape = 0; shape < 3; shape++) {
            same("shape", bit(x.shape(shape, 0, 50)), bit(model.shape(shape, 0, 50)));
        }
    }

    private void bars() {
        if (random.nextInt(3) == 0) {
            writeCode();
        } else {
            int k = anInt(64);
            int v = anInt(5);
            same("width(" + k + ", " + v + ")", bit(x.width(k, v)), bit(model.width(k, v)));
        }
        if (random.nextBoolean()) {
            same("read()", x.read(), model.read());
        } else {
            same("back()", x.back(), model.back());
        }
        for (int k = -1; k < 2 + random.nextInt(14); k++) {
            same("digit(" + k + ")", digitOr(k), model.digit(k));
        }
    }

    private void writeCode() {
        StringBuilder row = new StringBuilder("111");
        for (int k = random.nextInt(15); k > 0; k--) {
            row.append(PATTERNS[random.nextInt(10)]);
        }
        row.append("222");
        if (random.nextBoolean()) {
            row.reverse();
        }
        int scale = 1 + random.nextInt(250);
        for (int k = 0; k <= row.length() && k < 64; k++) {
            int v = k == row.length() ? 0 : scale * (row.charAt(k) - '0');
            same("width(" + k + ", " + v + ")", bit(x.width(k, v)), bit(model.width(k, v)));
        }
    }

    private int digitOr(int k) {
        try {
            return x.digit(k);
        } catch (ArrayIndexOutOfBoundsException e) {
            return -1;
        }
    }

    private void give() {
        int machine = anInt(6);
        long stem = random.nextInt(stems) * (random.nextInt(stems) == 0 ? 99999999999L : 1L);
        long serial = wild && random.nextInt(9) == 0 ? aLong() : 10 * stem + model.check(0, stem);
        serial += random.nextInt(15) == 0 ? 1 : 0;
        int shape = anInt(random.nextInt(20) == 0 ? 9 : 3);
        int weight = anInt(random.nextInt(20) == 0 ? 60 : 51);
        long second = wild && random.nextInt(9) == 0 ? aLong() : random.nextInt(8000000);
        String call = "give(" + machine + ", " + serial + ", " + shape + ", " + weight + ", " + second + ")";
        int want = model.give(machine, serial, shape, weight, second);
        same(call, x.give(machine, serial, shape, weight, second), want);
        if (random.nextInt(4) == 0) {
            same("reason() after " + call, x.reason(), model.reason());
        }
        paid += want == 1 ? 1 : 0;
    }

    private void numbers() {
        int kind = anInt(2);
        long number = aLong();
        same("check(" + kind + ", " + number + ")", x.check(kind, number), model.check(kind, number));
        same("good(" + kind + ", " + number + ")", bit(x.good(kind, number)), bit(model.good(kind, number)));
        long key = aLong();
        long shown = random.nextBoolean() ? Model.markOf(number, key) : aLong();
        boolean want = model.mark(number, key, shown);
        same("mark(" + number + ", " + key + ", " + shown + ")", bit(x.mark(number, key, shown)), bit(want));
    }

    private void states() {
        int machine = anInt(6);
        boolean on = random.nextInt(4) == 0;
        switch (random.nextInt(12)) {
            case 0 -> same("machine()", x.machine(), model.machine());
            case 1 -> same("full", bit(x.full(machine, on)), bit(model.full(machine, on)));
            case 2 -> same("power", bit(x.power(machine, !on)), bit(model.power(machine, !on)));
            case 3 -> told(anInt(8), anInt(20), anInt(100));
            case 4 -> joined(machine, anInt(6));
            default -> {
                int shape = anInt(8);
                same("count(" + machine + ", " + shape + ")", x.count(machine, shape), model.count(machine, shape));
            }
        }
    }

    private void told(int shape, int least, int most) {
        same("shape", bit(x.shape(shape, least, most)), bit(model.shape(shape, least, most)));
    }

    private void joined(int a, int b) {
        if (paid > 10 || random.nextInt(4) == 0) {
            same("join(" + a + ", " + b + ")", x.join(a, b), model.join(a, b));
        }
    }

    private void money() {
        int machine = anInt(6);
        int coupon = anInt(20);
        int shop = anInt(4);
        int month = anInt(5);
        switch (random.nextInt(7)) {
            case 0 -> same("coupon(" + machine + ")", x.coupon(machine), model.coupon(machine));
            case 1 -> same("redeem", bit(x.redeem(coupon, shop)), bit(model.redeem(coupon, shop)));
            case 2 -> same("shop(" + shop + ")", x.shop(shop), model.shop(shop));
            case 3 -> same("clear(" + month + ")", x.clear(month), model.clear(month));
            case 4 -> same("cleared(" + machine + ")", x.cleared(machine), model.cleared(machine));
            case 5 -> same("fraud(" + coupon + ")", x.fraud(coupon), model.fraud(coupon));
            default -> same("double2(" + coupon + ", " + shop + ")", x.double2(coupon, shop),
                model.double2(coupon, shop));
        }
    }

    /** Asks with the calls that are left, so that no answer behind the 512th call is looked at. */
    private void look() {
        while (calls < CALLS) {
            int k = random.nextInt(1 + random.nextInt(170));
            int what = random.nextInt(22);
            int machine = random.nextInt(6);
            int shape = random.nextInt(8);
            switch (random.nextInt(4)) {
                case 0 -> same("fraud(" + k + ")", x.fraud(k), model.fraud(k));
                case 1 -> same("shop(" + shape + ")", x.shop(shape), model.shop(shape));
                case 2 -> same("count(" + machine + ", " + shape + ")", x.count(machine, shape),
                    model.count(machine, shape));
                default -> same("double2(" + k + ", " + what + ")", x.double2(k, what), model.double2(k, what));
            }
        }
    }

    /** Answers are free there, but no call may throw by itself. */
    private static void stressBeyondTheLastCall() {
        DepositCodes x = Start.made(6);
        for (int k = 0; k < 3000; k++) {
            x.give(k % 6, Start.serial(k % 15), 0, 0, 0);
            x.coupon(k % 6);
            x.join(k % 5, k % 6);
            x.fraud(k);
            x.double2(k, k % 22);
        }
        Due.due("still there", x.count(0, 0) > 0, true);
    }

    private int anInt(int below) {
        if (random.nextInt(wild ? 6 : 60) == 0) {
            return WILD_INTS[random.nextInt(WILD_INTS.length)];
        }
        return random.nextInt(below);
    }

    private long aLong() {
        return switch (random.nextInt(4)) {
            case 0 -> WILD_LONGS[random.nextInt(WILD_LONGS.length)];
            case 1 -> random.nextInt(1000);
            case 2 -> random.nextLong();
            default -> (random.nextLong() >>> 1) % 1000000000000000000L;
        };
    }

    private void same(String call, long got, long want) {
        calls++;
        Due.due(call, got, want);
    }

    private static long bit(boolean answer) {
        return answer ? 1L : 0L;
    }
}
