import java.math.BigInteger;
import java.util.ArrayList;
import java.util.HashMap;
import java.util.List;
import java.util.Map;
import java.util.TreeMap;

/** The document once more, by texts, maps and big numbers, to hold against the class in random runs. */
final class Model {
    private static final int NONE = -1;
    private static final BigInteger LARGEST = BigInteger.TEN.pow(18).subtract(BigInteger.ONE);
    static final List<String> PATTERNS =
        List.of("3211", "2221", "2122", "1411", "1132", "1231", "1114", "1312", "1213", "3112");

    /** One set of machines: each paid serial with the machine that it counts for. */
    private static final class Group {
        final List<Integer> members = new ArrayList<>();
        final TreeMap<Long, Integer> paid = new TreeMap<>();
    }

    private record Payment(int machine, long serial, int shape, long second) {
    }

    private record Twice(int a, int b, long serial) {
    }

    private final Map<Integer, Integer> widths = new HashMap<>();
    private String latest = "";
    private final List<Group> groups = new ArrayList<>();
    private final Map<Integer, Boolean> full = new HashMap<>();
    private final Map<Integer, Boolean> power = new HashMap<>();
    private final Map<Integer, int[]> spans = new HashMap<>();
    private final List<Payment> payments = new ArrayList<>();
    private final List<Twice> doubles = new ArrayList<>();
    private final Map<Long, Integer> refusals = new HashMap<>();
    private final List<Integer> frauds = new ArrayList<>();
    private final Map<Integer, Integer> printedUpTo = new HashMap<>();
    private final List<Long> coupons = new ArrayList<>();
    private final Map<Integer, Integer> redeemed = new HashMap<>();
    private final Map<Integer, Long> cleared = new HashMap<>();
    private int reason = 0;

    boolean width(int k, int v) {
        if (k < 0 || k > 63 || v < 0 || v > 1000) {
            return false;
        }
        widths.put(k, v);
        return true;
    }

    int read() {
        return keep(code(row(false)), code(row(true)));
    }

    int back() {
        return keep(code(row(true)), code(row(false)));
    }

    private int keep(String first, String second) {
        latest = first.isEmpty() ? second : first;
        return latest.isEmpty() ? NONE : latest.length();
    }

    private List<Integer> row(boolean turned) {
        List<Integer> row = new ArrayList<>();
        for (int k = 0; k < 64 && widths.getOrDefault(k, 0) != 0; k++) {
            row.add(turned ? 0 : row.size(), widths.get(k));
        }
        return row;
    }

    private static String code(List<Integer> row) {
        int n = row.size();
        if (n < 10 || n % 4 != 2 || !same(row.subList(0, 3)) || !same(row.subList(n - 3, n))) {
            return "";
        }
        StringBuilder digits = new StringBuilder();
        for (int k = 3; k < n - 3; k += 4) {
            int digit = digitOf(row.subList(k, k + 4));
            if (digit < 0) {
                return "";
            }
            digits.append(digit);
        }
        return digits.toString();
    }

    private static boolean same(List<Integer> three) {
        return three.get(0).equals(three.get(1)) && three.get(1).equals(three.get(2));
    }

    private static int digitOf(List<Integer> four) {
        int sum = four.get(0) + four.get(1) + four.get(2) + four.get(3);
        StringBuilder pattern = new StringBuilder();
        for (int width : four) {
            if (7 * width % sum != 0) {
                return NONE;
            }
            pattern.append(7 * width / sum);
        }
        return PATTERNS.indexOf(pattern.toString());
    }

    /** NONE stands for the exception. */
    int digit(int k) {
        return k >= 0 && k < latest.length() ? latest.charAt(k) - '0' : NONE;
    }

    private static boolean isNumber(long number) {
        return BigInteger.valueOf(number).signum() >= 0 && BigInteger.valueOf(number).compareTo(LARGEST) <= 0;
    }

    int check(int kind, long number) {
        if (kind != 0 && kind != 1 || !isNumber(number)) {
            return NONE;
        }
        String turned = new StringBuilder(Long.toString(number)).reverse().toString();
        int sum = 0;
        for (int k = 0; k < turned.length(); k++) {
            int decimal = turned.charAt(k) - '0';
            if (k % 2 == 1) {
                sum += decimal;
            } else if (kind == 0) {
                sum += 3 * decimal;
            } else {
                sum += decimal * 2 > 9 ? decimal * 2 - 9 : decimal * 2;
            }
        }
        int lacks = 0;
        while ((sum + lacks) % 10 != 0) {
            lacks++;
        }
        return lacks;
    }

    boolean good(int kind, long number) {
        if (kind != 0 && kind != 1 || !isNumber(number)) {
            return false;
        }
        String text = Long.toString(number);
        String stem = text.length() == 1 ? "0" : text.substring(0, text.length() - 1);
        return text.endsWith(Integer.toString(check(kind, Long.parseLong(stem))));
    }

    int machine() {
        int made = full.size();
        if (made == 6) {
            return NONE;
        }
        full.put(made, false);
        power.put(made, true);
        printedUpTo.put(made, 0);
        Group alone = new Group();
        alone.members.add(made);
        groups.add(alone);
        return made;
    }

    boolean shape(int shape, int least, int most) {
        if (shape < 0 || shape > 7 || least < 0 || most > 100000 || most < least) {
            return false;
        }
        spans.put(shape, new int[] {least, most});
        return true;
    }

    boolean full(int machine, boolean on) {
        return full.replace(machine, on) != null;
    }

    boolean power(int machine, boolean on) {
        return power.replace(machine, on) != null;
    }

    private Group groupOf(int machine) {
        for (Group group : groups) {
            if (group.members.contains(machine)) {
                return group;
            }
        }
        throw new IllegalStateException("a machine without a set");
    }

    int give(int machine, long serial, int shape, int weight, long second) {
        if (!isNumber(serial) || second < 0 || second > 100000000000L || payments.size() == 200) {
            return NONE;
        }
        reason = refusal(machine, serial, shape, weight);
        if (reason == 7 && refusals.merge(serial, 1, Integer::sum) % 3 == 0) {
            frauds.add(machine);
        }
        if (reason != 0) {
            return 0;
        }
        groupOf(machine).paid.put(serial, machine);
        payments.add(new Payment(machine, serial, shape, second));
        return 1;
    }

    private int refusal(int machine, long serial, int shape, int weight) {
        int[] span = spans.get(shape);
        if (!full.containsKey(machine)) {
            return 1;
        } else if (full.get(machine)) {
            return 2;
        } else if (!power.get(machine)) {
            return 3;
        } else if (span == null) {
            return 4;
        } else if (weight < span[0] || weight > span[1]) {
            return 5;
        } else if (!good(0, serial)) {
            return 6;
        }
        return groupOf(machine).paid.containsKey(serial) ? 7 : 0;
    }

    int reason() {
        return reason;
    }

    long count(int machine, int shape) {
        if (!full.containsKey(machine) || shape < 0 || shape > 7) {
            return NONE;
        }
        return payments.stream().filter(p -> p.machine() == machine && p.shape() == shape).count();
    }

    int join(int machineA, int machineB) {
        if (!full.containsKey(machineA) || !full.containsKey(machineB)) {
            return NONE;
        }
        Group a = groupOf(machineA);
        Group b = groupOf(machineB);
        if (a == b) {
            return 0;
        }
        int told = 0;
        for (Map.Entry<Long, Integer> entry : b.paid.entrySet()) {
            Integer first = a.paid.putIfAbsent(entry.getKey(), entry.getValue());
            if (first != null) {
                doubles.add(new Twice(first, entry.getValue(), entry.getKey()));
                told++;
            }
        }
        a.members.addAll(b.members);
        groups.remove(b);
        return told;
    }

    int double2(int k, int what) {
        if (k < 0 || k >= doubles.size() || what < 0 || what > 20) {
            return NONE;
        }
        Twice twice = doubles.get(k);
        String decimals = Long.toString(twice.serial());
        return switch (what) {
            case 0 -> twice.a();
            case 1 -> twice.b();
            case 2 -> decimals.length();
            default -> what - 3 < decimals.length() ? decimals.charAt(what - 3) - '0' : NONE;
        };
    }

    boolean mark(long serial, long key, long shown) {
        if (!isNumber(serial) || !isNumber(key) || !isNumber(shown)) {
            return false;
        }
        return markOf(serial, key) == shown;
    }

    static long markOf(long serial, long key) {
        BigInteger modulus = BigInteger.valueOf(99991);
        BigInteger s = BigInteger.valueOf(serial).mod(modulus);
        BigInteger k = BigInteger.valueOf(key).mod(modulus);
        BigInteger left = s.add(k.multiply(BigInteger.valueOf(7)));
        BigInteger right = s.add(k.multiply(BigInteger.valueOf(13))).add(BigInteger.ONE);
        return left.multiply(right).mod(BigInteger.valueOf(10000)).longValueExact();
    }

    int coupon(int machine) {
        if (!full.containsKey(machine) || !power.get(machine)) {
            return NONE;
        }
        int from = printedUpTo.get(machine);
        long bottles = payments.subList(from, payments.size()).stream().filter(p -> p.machine() == machine).count();
        if (bottles == 0) {
            return NONE;
        }
        printedUpTo.put(machine, payments.size());
        coupons.add(25 * bottles);
        return coupons.size() - 1;
    }

    boolean redeem(int coupon, int shop) {
        if (coupon < 0 || coupon >= coupons.size() || shop < 0 || shop > 99) {
            return false;
        }
        return redeemed.putIfAbsent(coupon, shop) == null;
    }

    long shop(int shop) {
        if (shop < 0 || shop > 99) {
            return NONE;
        }
        long sum = 0;
        for (Map.Entry<Integer, Integer> entry : redeemed.entrySet()) {
            sum += entry.getValue() == shop ? coupons.get(entry.getKey()) : 0;
        }
        return sum;
    }

    int clear(int month) {
        if (month < 0 || month > 40000) {
            return NONE;
        }
        cleared.clear();
        for (Payment payment : payments) {
            if (payment.second() >= month * 2592000L && payment.second() < (month + 1) * 2592000L) {
                String padded = "0" + payment.serial();
                int system = (padded.charAt(padded.length() - 2) - '0') % 3;
                cleared.merge(payment.machine() % 3, -25L, Long::sum);
                cleared.merge(system, 25L, Long::sum);
            }
        }
        return (int) cleared.values().stream().filter(balance -> balance != 0).count();
    }

    long cleared(int system) {
        return cleared.getOrDefault(system, 0L);
    }

    int fraud(int k) {
        return k >= 0 && k < frauds.size() ? frauds.get(k) : NONE;
    }
}
