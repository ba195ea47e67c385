import java.util.Map;
import java.util.Random;
import java.util.Set;
import java.util.TreeMap;
import java.util.TreeSet;

/** All promises: runs of up to 512 calls in which all methods come mixed, each answer held against the model's. */
public final class RandomRunsTest {
    private static final int RUNS = 3000;
    private static final int MOST_CALLS = 512;
    private static final long MONTH = 2592000L;
    private static final String[] METHODS = {
        "width", "read", "back", "digit", "check", "good", "machine", "shape", "full", "power", "give", "reason",
        "count", "join", "double2", "mark", "coupon", "redeem", "shop", "clear", "cleared", "fraud",
    };
    private static final Model NUMBERS = new Model();
    /** How often each method comes, by the theme of the run: all alike, bars, payments, doubles, money. */
    private static final int[][] WEIGHTS = {
        {9, 3, 3, 4, 3, 3, 2, 3, 3, 3, 9, 4, 4, 3, 4, 3, 4, 4, 3, 4, 4, 4},
        {80, 6, 6, 18, 1, 1, 1, 1, 1, 1, 4, 1, 1, 1, 1, 1, 1, 1, 1, 1, 1, 1},
        {2, 1, 1, 1, 1, 1, 1, 1, 1, 1, 150, 2, 2, 1, 2, 1, 2, 1, 1, 1, 1, 1},
        {2, 1, 1, 1, 1, 1, 2, 1, 1, 1, 40, 3, 3, 3, 12, 1, 1, 1, 1, 1, 1, 6},
        {2, 1, 1, 1, 1, 1, 2, 1, 2, 2, 30, 2, 2, 1, 2, 1, 9, 12, 6, 8, 10, 2},
    };
    private static final int ALL_ALIKE = 0;
    private static final int PAYMENTS = 2;
    private static final int[] WILD_INTS = {
        Integer.MIN_VALUE, -2, -1, 0, 1, 6, 7, 8, 21, 63, 64, 99, 100, 1000, 1001, 38580, 40000, 40001, 100000, 100001,
        Integer.MAX_VALUE,
    };
    private static final long[] WILD_LONGS = {
        Long.MIN_VALUE, -99991, -1, 0, 1, 9, 10, 99991, 100000000000L, 100000000001L, 999999999999999999L,
        1000000000000000000L, Long.MAX_VALUE,
    };
    /** What runs of chance must have come upon, lest they look at nothing. */
    private static final String[] MUST_COME = {
        "width 0", "width 1", "read -1", "read 1", "read 14", "back -1", "back 1", "back 14", "digit -1", "digit 0",
        "digit 1", "digit 2", "digit 3", "digit 4", "digit 5", "digit 6", "digit 7", "digit 8", "digit 9",
        "check -1", "check 0", "check 9", "good 0", "good 1", "machine -1", "machine 0", "machine 5", "shape 0",
        "shape 1", "full 0", "full 1", "power 0", "power 1", "give -1", "give 0", "give 1", "reason 0", "reason 1",
        "reason 2", "reason 3", "reason 4", "reason 5", "reason 6", "reason 7", "count -1", "count 0", "count 9",
        "join -1", "join 0", "join 1", "join 5", "double2 -1", "double2 0", "double2 9", "mark 0", "mark 1",
        "coupon -1", "coupon 0", "coupon 9", "redeem 0", "redeem 1", "shop -1", "shop 0", "shop 25", "clear -1",
        "clear 0", "clear 2", "clear 3", "cleared -25", "cleared 0", "cleared 25", "fraud -1", "fraud 0", "fraud 5",
        "give at 200",
    };

    private final Random random;
    private final int theme;
    private final boolean wild;
    private final long[] stems;
    private final Both both;
    private final Set<String> came;
    private String row = "";
    private int scale = 1;
    private int place = 0;
    private int paid = 0;

    private RandomRunsTest(int seed, Set<String> came) {
        random = new Random(seed);
        theme = seed % WEIGHTS.length;
        wild = seed % 3 == 0;
        stems = new long[theme == PAYMENTS ? 60 + random.nextInt(900) : 1 + random.nextInt(15)];
        for (int k = 0; k < stems.length; k++) {
            stems[k] = someStem();
        }
        both = new Both("run " + seed);
        this.came = came;
    }

    public static void main(String[] args) {
        Set<String> came = new TreeSet<>();
        Map<String, Integer> made = new TreeMap<>();
        for (int seed = 0; seed < RUNS; seed++) {
            RandomRunsTest test = new RandomRunsTest(seed, came);
            test.run();
            test.both.made().forEach((method, times) -> made.merge(method, times, Integer::sum));
        }
        Due.due("methods that were called: " + made.keySet(), made.size(), METHODS.length);
        for (String must : MUST_COME) {
            Due.due("runs came upon " + must, came.contains(must), true);
        }
        stressBeyondTheLastCall();
        Due.end("RandomRunsTest");
    }

    private void run() {
        begin();
        int length = random.nextInt(4) == 0 ? 100 + random.nextInt(MOST_CALLS - 99) : MOST_CALLS;
        while (both.calls() < length) {
            String method = METHODS[drawn(WEIGHTS[theme])];
            came.add(method + " " + call(method));
        }
        if (theme == ALL_ALIKE && length == MOST_CALLS) {
            Due.due("all methods come in one run: " + both.made(), both.made().size(), METHODS.length);
        }
    }

    /** Some machines and spans, so that the run is not of refused calls alone; one run in ten has none. */
    private void begin() {
        if (random.nextInt(10) == 0) {
            return;
        }
        for (int k = random.nextInt(7); k > 0; k--) {
            both.machine();
        }
        for (int shape = 0; shape < 3; shape++) {
            both.shape(shape, 0, 50);
        }
    }

    private int drawn(int[] weights) {
        int all = 0;
        for (int weight : weights) {
            all += weight;
        }
        int left = random.nextInt(all);
        int k = 0;
        while (left >= weights[k]) {
            left -= weights[k];
            k++;
        }
        return k;
    }

    private long call(String method) {
        return switch (method) {
            case "width" -> width();
            case "read" -> both.read();
            case "back" -> both.back();
            case "digit" -> both.digit(anInt(random.nextInt(4) == 0 ? 15 : 3));
            case "check" -> both.check(anInt(2), aLong());
            case "good" -> good();
            case "machine" -> both.machine();
            case "shape" -> both.shape(anInt(8), anInt(20), anInt(100));
            case "full" -> both.full(anInt(6), random.nextInt(4) == 0);
            case "power" -> both.power(anInt(6), random.nextInt(4) != 0);
            case "give" -> give();
            case "reason" -> both.reason();
            case "count" -> both.count(anInt(6), anInt(random.nextBoolean() ? 3 : 8));
            case "join" -> join();
            case "double2" -> both.double2(anInt(1 + random.nextInt(30)), anInt(22));
            case "mark" -> mark();
            case "coupon" -> both.coupon(anInt(6));
            case "redeem" -> both.redeem(anInt(1 + random.nextInt(30)), anInt(4));
            case "shop" -> both.shop(anInt(4));
            case "clear" -> both.clear(anInt(4));
            case "cleared" -> both.cleared(anInt(4));
            case "fraud" -> both.fraud(anInt(1 + random.nextInt(40)));
            default -> throw new IllegalArgumentException(method);
        };
    }

    /** Most widths go on with a row that is a code, or nearly one, so that codes come up between other calls. */
    private long width() {
        if (random.nextInt(30) == 0) {
            return both.width(anInt(64), anInt(5));
        }
        if (place > row.length()) {
            newRow();
        }
        int k = place;
        place++;
        return both.width(k, k < row.length() ? scale * (row.charAt(k) - '0') : 0);
    }

    private void newRow() {
        StringBuilder text = new StringBuilder("111");
        for (int k = random.nextInt(random.nextInt(4) == 0 ? 15 : 4); k > 0; k--) {
            text.append(Model.PATTERNS.get(random.nextInt(Model.PATTERNS.size())));
        }
        text.append(random.nextInt(8) == 0 ? "221" : "222");
        row = (random.nextBoolean() ? text : text.reverse()).toString();
        scale = 1 + random.nextInt(250);
        place = 0;
    }

    private long good() {
        int kind = anInt(2);
        long stem = someStem();
        boolean made = random.nextBoolean() && both.calls() < MOST_CALLS - 1;
        return both.good(kind, made ? 10 * stem + both.check(random.nextInt(2), stem) : aLong());
    }

    private long give() {
        long second = wild && random.nextInt(9) == 0 ? aLong() : aSecond();
        int shape = anInt(random.nextInt(20) == 0 ? 9 : 3);
        int weight = anInt(random.nextInt(20) == 0 ? 120 : 51);
        long answer = both.give(anInt(6), aSerial(), shape, weight, second);
        if (answer == DepositCodes.NONE && paid == 200) {
            came.add("give at 200");
        }
        paid += answer == 1 ? 1 : 0;
        return answer;
    }

    private long aSerial() {
        if (wild && random.nextInt(12) == 0) {
            return aLong();
        }
        long stem = stems[random.nextInt(stems.length)];
        return 10 * stem + NUMBERS.check(0, stem) + (random.nextInt(15) == 0 ? 1 : 0);
    }

    private long aSecond() {
        long start = MONTH * (random.nextInt(9) == 0 ? 38580 : random.nextInt(3));
        return switch (random.nextInt(4)) {
            case 0 -> start;
            case 1 -> start + (start == 0 ? 0 : -1);
            default -> start + random.nextInt(1000000);
        };
    }

    /** Joinings of the beginning would leave one set alone, so most of them wait for payments. */
    private long join() {
        int a = anInt(6);
        return both.join(a, paid > 12 || random.nextInt(4) == 0 ? anInt(6) : a);
    }

    private long mark() {
        long serial = aLong();
        long key = aLong();
        return both.mark(serial, key, random.nextBoolean() ? Model.markOf(serial, key) : aLong());
    }

    /** Answers are free there, but no call may throw by itself. */
    private static void stressBeyondTheLastCall() {
        DepositCodes x = Start.made(6);
        for (int k = 0; k < 3000; k++) {
            x.give(k % 6, Start.serial(k % 15), 0, 0, 0);
            x.coupon(k % 6);
            x.join(k % 5, k % 6);
            x.fraud(k);
            x.double2(k, k % 22);
        }
        Due.due("still there", x.count(0, 0) > 0, true);
    }

    /** A stem of 1 to 17 decimals, so that its serial is a number. */
    private long someStem() {
        long stem = 0;
        for (int k = 1 + random.nextInt(random.nextInt(3) == 0 ? 17 : 3); k > 0; k--) {
            stem = 10 * stem + random.nextInt(10);
        }
        return stem;
    }

    private int anInt(int below) {
        if (random.nextInt(wild ? 12 : 60) == 0) {
            return WILD_INTS[random.nextInt(WILD_INTS.length)];
        }
        return random.nextInt(below);
    }

    private long aLong() {
        return switch (random.nextInt(4)) {
            case 0 -> WILD_LONGS[random.nextInt(WILD_LONGS.length)];
            case 1 -> random.nextInt(1000);
            case 2 -> random.nextLong();
            default -> (random.nextLong() >>> 1) % 1000000000000000000L;
        };
    }
}
