/**
 * Machines that take bottles back: bars are read, serials are paid once in each set of
 * machines, coupons are redeemed once, months are cleared and frauds are told.
 */
public final class DepositCodes {
    public static final int NONE = -1;

    private static final int REFUND = 25;
    private static final int SYSTEMS = 3;
    private static final long LAST_SECOND = 100000000000L;
    private static final long MONTH_SECONDS = 2592000L;
    private static final int LAST_MONTH = 40000;
    private static final int MARK_MODULUS = 99991;
    private static final int MARK_SIZE = 10000;

    private static final int PAID = 0;
    private static final int NO_MACHINE = 1;
    private static final int MACHINE_FULL = 2;
    private static final int NO_POWER = 3;
    private static final int NO_SPAN = 4;
    private static final int WRONG_WEIGHT = 5;
    private static final int NOT_GOOD = 6;
    private static final int PAID_ALREADY = 7;

    private final Bars bars;
    private final Machines machines;
    private final Spans spans;
    private final Payments payments;
    private final Doubles doubles;
    private final Coupons coupons;
    private final Frauds frauds;
    private final long[] balances;
    private int latestReason;

    public DepositCodes() {
        bars = new Bars();
        machines = new Machines();
        spans = new Spans();
        payments = new Payments();
        doubles = new Doubles();
        coupons = new Coupons();
        frauds = new Frauds();
        balances = new long[SYSTEMS];
        latestReason = PAID;
    }

    public boolean width(int k, int v) {
        return bars.setWidth(k, v);
    }

    public int read() {
        return bars.scan(false);
    }

    public int back() {
        return bars.scan(true);
    }

    public int digit(int k) throws ArrayIndexOutOfBoundsException {
        int found = bars.digitAt(k);
        if (found == NONE) {
            throw new ArrayIndexOutOfBoundsException();
        }
        return found;
    }

    public int check(int kind, long number) {
        if (!Numbers.isKind(kind) || !Numbers.isNumber(number)) {
            return NONE;
        }
        return Numbers.checkDigit(kind, number);
    }

    public boolean good(int kind, long number) {
        return Numbers.isKind(kind) && Numbers.isNumber(number) && Numbers.isGood(kind, number);
    }

    public int machine() {
        return machines.addMachine();
    }

    public boolean shape(int shape, int least, int most) {
        return spans.tell(shape, least, most);
    }

    public boolean full(int machine, boolean on) {
        return machines.setFull(machine, on);
    }

    public boolean power(int machine, boolean on) {
        return machines.setPower(machine, on);
    }

    public int give(int machine, long serial, int shape, int weight, long second) {
        if (!Numbers.isNumber(serial) || second < 0 || second > LAST_SECOND || payments.areAtLimit()) {
            return NONE;
        }
        latestReason = reasonToRefuse(machine, serial, shape, weight);
        if (latestReason == PAID_ALREADY) {
            noteRefusal(machine, serial);
        }
        if (latestReason != PAID) {
            return 0;
        }
        int month = (int) (second / MONTH_SECONDS);
        payments.add(serial, machine, machines.setOf(machine), shape, month);
        machines.addUnprinted(machine);
        return 1;
    }

    public int reason() {
        return latestReason;
    }

    public long count(int machine, int shape) {
        if (!machines.exists(machine) || !spans.exists(shape)) {
            return NONE;
        }
        return payments.paidBy(machine, shape);
    }

    public int join(int machineA, int machineB) {
        if (!machines.exists(machineA) || !machines.exists(machineB)) {
            return NONE;
        }
        int setA = machines.setOf(machineA);
        int setB = machines.setOf(machineB);
        if (setA == setB) {
            return 0;
        }
        int told = tellDoubles(setA, setB);
        payments.moveSet(setB, setA);
        machines.moveSet(setB, setA);
        return told;
    }

    public int double2(int k, int what) {
        return doubles.part(k, what);
    }

    public boolean mark(long serial, long key, long shown) {
        if (!Numbers.isNumber(serial) || !Numbers.isNumber(key) || !Numbers.isNumber(shown)) {
            return false;
        }
        long s = serial % MARK_MODULUS;
        long k = key % MARK_MODULUS;
        return shown == (s + 7 * k) * (s + 13 * k + 1) % MARK_SIZE;
    }

    public int coupon(int machine) {
        if (!machines.hasPower(machine)) {
            return NONE;
        }
        int bottles = machines.takeUnprinted(machine);
        return bottles == 0 ? NONE : coupons.print(bottles * REFUND);
    }

    public boolean redeem(int coupon, int shop) {
        return coupons.redeemAt(coupon, shop);
    }

    public long shop(int shop) {
        return coupons.redeemedBy(shop);
    }

    public int clear(int month) {
        if (month < 0 || month > LAST_MONTH) {
            return NONE;
        }
        payments.balance(month, balances);
        int unbalanced = 0;
        for (int system = 0; system < balances.length; system++) {
            if (balances[system] != 0) {
                unbalanced++;
            }
        }
        return unbalanced;
    }

    public long cleared(int system) {
        return isIndex(system, balances.length) ? balances[system] : 0;
    }

    public int fraud(int k) {
        return frauds.machineOf(k);
    }

    private int reasonToRefuse(int machine, long serial, int shape, int weight) {
        if (!machines.exists(machine)) {
            return NO_MACHINE;
        }
        if (machines.isFull(machine)) {
            return MACHINE_FULL;
        }
        if (!machines.hasPower(machine)) {
            return NO_POWER;
        }
        if (!spans.isTold(shape)) {
            return NO_SPAN;
        }
        if (!spans.holds(shape, weight)) {
            return WRONG_WEIGHT;
        }
        if (!Numbers.isGood(0, serial)) {
            return NOT_GOOD;
        }
        return payments.find(serial, machines.setOf(machine)) == NONE ? PAID : PAID_ALREADY;
    }

    private void noteRefusal(int machine, long serial) {
        if (payments.addRefusal(serial) % Frauds.REFUSALS_EACH == 0) {
            frauds.add(machine);
        }
    }

    private int tellDoubles(int setA, int setB) {
        int before = doubles.size();
        for (int inB = 0; inB < payments.size(); inB++) {
            if (payments.isOf(inB, setB)) {
                int inA = payments.find(payments.serialOf(inB), setA);
                if (inA != NONE) {
                    doubles.insert(before, payments.serialOf(inB), payments.payerOf(inA), payments.payerOf(inB));
                    payments.leaveSet(inB);
                }
            }
        }
        return doubles.size() - before;
    }

    private static boolean isIndex(int k, int size) {
        return k >= 0 && k < size;
    }

    /** Numbers by their decimals: check digits, and the system that a serial tells. */
    private static final class Numbers {
        private static final long LARGEST = 999999999999999999L;
        private static final int MOST_DECIMALS = 18;
        private static final int KINDS = 2;

        static boolean isNumber(long number) {
            return number >= 0 && number <= LARGEST;
        }

        static boolean isKind(int kind) {
            return isIndex(kind, KINDS);
        }

        // Decimals that a number does not have are 0 and add nothing, so all 18 places may be added.
        static int checkDigit(int kind, long number) {
            int sum = 0;
            long rest = number;
            for (int fromEnd = 0; fromEnd < MOST_DECIMALS; fromEnd++) {
                int decimal = (int) (rest % 10);
                sum += fromEnd % 2 == 0 ? weighed(kind, decimal) : decimal;
                rest /= 10;
            }
            return (10 - sum % 10) % 10;
        }

        static boolean isGood(int kind, long number) {
            return number % 10 == checkDigit(kind, number / 10);
        }

        static int decimals(long number) {
            int decimals = 1;
            for (long rest = number / 10; rest > 0 && decimals < MOST_DECIMALS; rest /= 10) {
                decimals++;
            }
            return decimals;
        }

        static int decimalAt(long number, int place) {
            int behind = decimals(number) - 1 - place;
            if (place < 0 || behind < 0) {
                return NONE;
            }
            long rest = number;
            for (int k = 0; k < behind; k++) {
                rest /= 10;
            }
            return (int) (rest % 10);
        }

        static int systemOfSerial(long serial) {
            return (int) (serial / 10 % 10 % SYSTEMS);
        }

        private static int weighed(int kind, int decimal) {
            if (kind == 0) {
                return 3 * decimal;
            }
            return 2 * decimal > 9 ? 2 * decimal - 9 : 2 * decimal;
        }
    }

    /** The row of widths, and the digits that were read from it latest. */
    private static final class Bars {
        private static final int MOST = 64;
        private static final int WIDEST = 1000;
        private static final int EDGE = 3;
        private static final int GROUP = 4;
        private static final int MODULES = 7;
        private static final int DIGITS = 10;
        private static final int MOST_DIGITS = (MOST - 2 * EDGE) / GROUP;
        private static final int[] PATTERNS = {
            3, 2, 1, 1,
            2, 2, 2, 1,
            2, 1, 2, 2,
            1, 4, 1, 1,
            1, 1, 3, 2,
            1, 2, 3, 1,
            1, 1, 1, 4,
            1, 3, 1, 2,
            1, 2, 1, 3,
            3, 1, 1, 2,
        };

        private final int[] widths;
        private final int[] digits;
        private int digitCount;

        Bars() {
            widths = new int[MOST];
            digits = new int[MOST_DIGITS];
            digitCount = 0;
        }

        boolean setWidth(int k, int width) {
            if (!isIndex(k, MOST) || width < 0 || width > WIDEST) {
                return false;
            }
            widths[k] = width;
            return true;
        }

        int scan(boolean backFirst) {
            int length = rowLength();
            if (decode(length, backFirst) || decode(length, !backFirst)) {
                return digitCount;
            }
            digitCount = 0;
            return NONE;
        }

        int digitAt(int k) {
            return isIndex(k, digitCount) ? digits[k] : NONE;
        }

        private int rowLength() {
            int length = 0;
            while (length < MOST && widths[length] != 0) {
                length++;
            }
            return length;
        }

        private boolean decode(int length, boolean reversed) {
            int inner = length - 2 * EDGE;
            if (inner < GROUP || inner % GROUP != 0 || !isEdge(0) || !isEdge(length - EDGE)) {
                return false;
            }
            int groups = inner / GROUP;
            for (int g = 0; g < groups && g < MOST_DIGITS; g++) {
                int found = digitOfGroup(EDGE + g * GROUP, length, reversed);
                if (found == NONE) {
                    return false;
                }
                digits[g] = found;
            }
            digitCount = groups;
            return true;
        }

        private boolean isEdge(int start) {
            int first = widthAt(start);
            return first == widthAt(start + 1) && first == widthAt(start + 2);
        }

        private int digitOfGroup(int start, int length, boolean reversed) {
            for (int candidate = 0; candidate < DIGITS; candidate++) {
                if (matches(candidate, start, length, reversed)) {
                    return candidate;
                }
            }
            return NONE;
        }

        private boolean matches(int candidate, int start, int length, boolean reversed) {
            int step = reversed ? -1 : 1;
            int from = reversed ? length - 1 - start : start;
            int sum = 0;
            for (int k = 0; k < GROUP; k++) {
                sum += widthAt(from + k * step);
            }
            for (int k = 0; k < GROUP; k++) {
                if (MODULES * widthAt(from + k * step) != sum * PATTERNS[candidate * GROUP + k]) {
                    return false;
                }
            }
            return true;
        }

        private int widthAt(int k) {
            return isIndex(k, MOST) ? widths[k] : 0;
        }
    }

    /** What each machine is: its set, full or not, with power or not, and what no coupon tells yet. */
    private static final class Machines {
        private static final int MOST = 6;

        private final boolean[] fullOnes;
        private final boolean[] poweredOnes;
        private final int[] sets;
        private final int[] unprinted;
        private int size;

        Machines() {
            fullOnes = new boolean[MOST];
            poweredOnes = new boolean[MOST];
            sets = new int[MOST];
            unprinted = new int[MOST];
            size = 0;
        }

        int addMachine() {
            if (size >= MOST) {
                return NONE;
            }
            int added = size;
            poweredOnes[added] = true;
            sets[added] = added;
            size++;
            return added;
        }

        boolean exists(int machine) {
            return isIndex(machine, size);
        }

        boolean setFull(int machine, boolean on) {
            if (!exists(machine)) {
                return false;
            }
            fullOnes[machine] = on;
            return true;
        }

        boolean setPower(int machine, boolean on) {
            if (!exists(machine)) {
                return false;
            }
            poweredOnes[machine] = on;
            return true;
        }

        boolean isFull(int machine) {
            return exists(machine) && fullOnes[machine];
        }

        boolean hasPower(int machine) {
            return exists(machine) && poweredOnes[machine];
        }

        int setOf(int machine) {
            return exists(machine) ? sets[machine] : NONE;
        }

        void moveSet(int from, int to) {
            for (int machine = 0; machine < size; machine++) {
                if (sets[machine] == from) {
                    sets[machine] = to;
                }
            }
        }

        void addUnprinted(int machine) {
            if (exists(machine)) {
                unprinted[machine]++;
            }
        }

        int takeUnprinted(int machine) {
            if (!exists(machine)) {
                return 0;
            }
            int taken = unprinted[machine];
            unprinted[machine] = 0;
            return taken;
        }
    }

    /** The span of weights of each shape, where one was told. */
    private static final class Spans {
        private static final int SHAPES = 8;
        private static final int HEAVIEST = 100000;

        private final boolean[] told;
        private final int[] leasts;
        private final int[] mosts;

        Spans() {
            told = new boolean[SHAPES];
            leasts = new int[SHAPES];
            mosts = new int[SHAPES];
        }

        boolean exists(int shape) {
            return isIndex(shape, SHAPES);
        }

        boolean tell(int shape, int least, int most) {
            if (!exists(shape) || least < 0 || most > HEAVIEST || least > most) {
                return false;
            }
            told[shape] = true;
            leasts[shape] = least;
            mosts[shape] = most;
            return true;
        }

        boolean isTold(int shape) {
            return exists(shape) && told[shape];
        }

        boolean holds(int shape, int weight) {
            return isTold(shape) && weight >= leasts[shape] && weight <= mosts[shape];
        }
    }

    /**
     * All payments in their order. A payment is one of its set's paid serials until a joining
     * tells it as the double of another; for counts, coupons and balances it stays a payment.
     */
    private static final class Payments {
        private static final int MOST = 200;

        private final long[] serials;
        private final int[] payers;
        private final int[] sets;
        private final int[] shapes;
        private final int[] months;
        private final int[] refusals;
        private int size;

        Payments() {
            serials = new long[MOST];
            payers = new int[MOST];
            sets = new int[MOST];
            shapes = new int[MOST];
            months = new int[MOST];
            refusals = new int[MOST];
            size = 0;
        }

        boolean areAtLimit() {
            return size >= MOST;
        }

        int size() {
            return size;
        }

        void add(long serial, int payer, int set, int shape, int month) {
            if (size >= MOST) {
                return;
            }
            serials[size] = serial;
            payers[size] = payer;
            sets[size] = set;
            shapes[size] = shape;
            months[size] = month;
            size++;
        }

        long serialOf(int k) {
            return isIndex(k, size) ? serials[k] : NONE;
        }

        int payerOf(int k) {
            return isIndex(k, size) ? payers[k] : NONE;
        }

        boolean isOf(int k, int set) {
            return isIndex(k, size) && sets[k] == set;
        }

        int find(long serial, int set) {
            for (int k = 0; k < size; k++) {
                if (serials[k] == serial && sets[k] == set) {
                    return k;
                }
            }
            return NONE;
        }

        void leaveSet(int k) {
            if (isIndex(k, size)) {
                sets[k] = NONE;
            }
        }

        void moveSet(int from, int to) {
            for (int k = 0; k < size; k++) {
                if (sets[k] == from) {
                    sets[k] = to;
                }
            }
        }

        // A serial's refusals stand at its first payment, as they are counted over all sets.
        int addRefusal(long serial) {
            for (int k = 0; k < size; k++) {
                if (serials[k] == serial) {
                    refusals[k]++;
                    return refusals[k];
                }
            }
            return NONE;
        }

        int paidBy(int machine, int shape) {
            int paid = 0;
            for (int k = 0; k < size; k++) {
                if (payers[k] == machine && shapes[k] == shape) {
                    paid++;
                }
            }
            return paid;
        }

        void balance(int month, long[] balances) {
            for (int system = 0; system < balances.length; system++) {
                balances[system] = 0;
            }
            for (int k = 0; k < size; k++) {
                if (months[k] == month) {
                    addTo(balances, payers[k] % SYSTEMS, -REFUND);
                    addTo(balances, Numbers.systemOfSerial(serials[k]), REFUND);
                }
            }
        }

        private static void addTo(long[] balances, int system, int amount) {
            if (isIndex(system, balances.length)) {
                balances[system] += amount;
            }
        }
    }

    /** The doubles of all joinings. Each takes one payment out of its set, so there are fewer than payments. */
    private static final class Doubles {
        private static final int FIRST_DECIMAL = 3;

        private final long[] serials;
        private final int[] payersA;
        private final int[] payersB;
        private int size;

        Doubles() {
            serials = new long[Payments.MOST];
            payersA = new int[Payments.MOST];
            payersB = new int[Payments.MOST];
            size = 0;
        }

        int size() {
            return size;
        }

        // Only the doubles of this joining, from its first one on, are ordered by their serials.
        void insert(int first, long serial, int payerA, int payerB) {
            if (size >= Payments.MOST || first < 0) {
                return;
            }
            int place = size;
            while (place > first && serials[place - 1] > serial) {
                serials[place] = serials[place - 1];
                payersA[place] = payersA[place - 1];
                payersB[place] = payersB[place - 1];
                place--;
            }
            serials[place] = serial;
            payersA[place] = payerA;
            payersB[place] = payerB;
            size++;
        }

        int part(int k, int what) {
            if (!isIndex(k, size) || what < 0) {
                return NONE;
            }
            switch (what) {
                case 0:
                    return payersA[k];
                case 1:
                    return payersB[k];
                case 2:
                    return Numbers.decimals(serials[k]);
                default:
                    return Numbers.decimalAt(serials[k], what - FIRST_DECIMAL);
            }
        }
    }

    /** Coupons and what the shops redeemed. Each tells one payment or more, so there are no more than payments. */
    private static final class Coupons {
        private static final int SHOPS = 100;

        private final int[] amounts;
        private final boolean[] redeemed;
        private final long[] sums;
        private int size;

        Coupons() {
            amounts = new int[Payments.MOST];
            redeemed = new boolean[Payments.MOST];
            sums = new long[SHOPS];
            size = 0;
        }

        int print(int amount) {
            if (size >= Payments.MOST) {
                return NONE;
            }
            int printed = size;
            amounts[printed] = amount;
            size++;
            return printed;
        }

        boolean redeemAt(int printed, int where) {
            if (!isIndex(printed, size) || !isIndex(where, SHOPS) || redeemed[printed]) {
                return false;
            }
            redeemed[printed] = true;
            sums[where] += amounts[printed];
            return true;
        }

        long redeemedBy(int where) {
            return isIndex(where, SHOPS) ? sums[where] : NONE;
        }
    }

    /** The machines at which frauds were; 512 calls can tell no more than this keeps. */
    private static final class Frauds {
        private static final int REFUSALS_EACH = 3;
        private static final int MOST = 512 / REFUSALS_EACH;

        private final int[] places;
        private int size;

        Frauds() {
            places = new int[MOST];
            size = 0;
        }

        void add(int machine) {
            if (size < MOST) {
                places[size] = machine;
                size++;
            }
        }

        int machineOf(int k) {
            return isIndex(k, size) ? places[k] : NONE;
        }
    }
}
