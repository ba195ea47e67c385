/** Promises 2 to 5: widths, reading either way, digits. */
public final class BarsTest {
    private static final String[] PATTERNS = {
        "3211", "2221", "2122", "1411", "1132", "1231", "1114", "1312", "1213", "3112",
    };

    public static void main(String[] args) {
        widthsHaveLimits();
        aCodeReadsTheSameEitherWay();
        groupsScaleEachByItself();
        everyDigitReads();
        edgesMustBeEven();
        rowsOfOtherLengthsAreNoCode();
        theRowEndsBeforeItsFirstZero();
        whatWasReadGoesOnlyWithReading();
        aFullRowOf64IsNoCode();
        widestBarsRead();
        Due.end("BarsTest");
    }

    private static void widthsHaveLimits() {
        DepositCodes x = new DepositCodes();
        Due.due("width(0, 0)", x.width(0, 0), true);
        Due.due("width(63, 1000)", x.width(63, 1000), true);
        Due.due("width(64, 1)", x.width(64, 1), false);
        Due.due("width(-1, 1)", x.width(-1, 1), false);
        Due.due("width(0, 1001)", x.width(0, 1001), false);
        Due.due("width(0, -1)", x.width(0, -1), false);
        Due.due("width(MIN, MIN)", x.width(Integer.MIN_VALUE, Integer.MIN_VALUE), false);
        Due.due("width(MAX, MAX)", x.width(Integer.MAX_VALUE, Integer.MAX_VALUE), false);
        set(x, 1, 1, 1, 3, 2, 1, 1, 1, 1, 1);
        x.width(0, 1001);
        x.width(1, -1);
        Due.due("read() after refused widths", x.read(), 1);
    }

    private static void aCodeReadsTheSameEitherWay() {
        int[] digits = {1, 2, 3, 4, 5, 6, 7, 8, 9, 0, 1, 2, 3, 4};
        int[] row = code(digits, 1, 2, 2);
        for (int way = 0; way < 4; way++) {
            DepositCodes x = new DepositCodes();
            set(x, way < 2 ? row : reversed(row));
            Due.due("reading way " + way, way % 2 == 0 ? x.read() : x.back(), 14);
            dueDigits(x, digits);
        }
    }

    private static void groupsScaleEachByItself() {
        DepositCodes x = new DepositCodes();
        set(x, 9, 9, 9, 3, 2, 1, 1, 10, 10, 10, 5, 14, 7, 14, 14, 4, 4, 4);
        Due.due("read()", x.read(), 3);
        dueDigits(x, new int[] {0, 1, 2});
        x.width(3, 4);
        Due.due("read() of 4211", x.read(), -1);
        set(x, 1, 1, 1, 2, 2, 2, 2, 1, 1, 1);
        Due.due("read() of 2222", x.read(), -1);
        set(x, 1, 1, 1, 1, 1, 1, 1, 1, 1, 1);
        Due.due("read() of 1111", x.read(), -1);
        Due.due("back() of 1111", x.back(), -1);
    }

    private static void everyDigitReads() {
        for (int d = 0; d < 10; d++) {
            DepositCodes x = new DepositCodes();
            int[] row = code(new int[] {d}, 5, 7, 3);
            set(x, row);
            Due.due("read() of a " + d, x.read(), 1);
            dueDigits(x, new int[] {d});
            set(x, reversed(row));
            Due.due("back() of a turned " + d, x.back(), 1);
            dueDigits(x, new int[] {d});
        }
    }

    private static void edgesMustBeEven() {
        int[] row = code(new int[] {4, 2}, 2, 1, 3);
        int[] places = {0, 1, 2, row.length - 3, row.length - 2, row.length - 1};
        for (int place : places) {
            DepositCodes x = new DepositCodes();
            set(x, row);
            x.width(place, 5);
            Due.due("read() with edge " + place + " wrong", x.read(), -1);
            Due.due("back() with edge " + place + " wrong", x.back(), -1);
            x.width(place, row[place]);
            Due.due("read() with edge " + place + " right", x.read(), 2);
        }
    }

    private static void rowsOfOtherLengthsAreNoCode() {
        for (int length = 0; length <= 9; length++) {
            DepositCodes x = new DepositCodes();
            for (int k = 0; k < length; k++) {
                x.width(k, 1);
            }
            Due.due("read() of " + length + " bars", x.read(), -1);
            Due.due("back() of " + length + " bars", x.back(), -1);
        }
        DepositCodes x = new DepositCodes();
        set(x, 1, 1, 1, 3, 2, 1, 1, 1, 1, 1, 1);
        Due.due("read() of 11 bars", x.read(), -1);
        set(x, 1, 1, 1, 3, 2, 1, 1, 1, 1, 1, 1, 1);
        Due.due("read() of 12 bars", x.read(), -1);
    }

    private static void theRowEndsBeforeItsFirstZero() {
        DepositCodes x = new DepositCodes();
        set(x, 1, 1, 1, 1, 1, 1, 4, 2, 2, 2);
        x.width(11, 7);
        x.width(63, 9);
        Due.due("read() with bars behind the 0", x.read(), 1);
        dueDigits(x, new int[] {6});
        set(x, reversed(new int[] {1, 1, 1, 1, 1, 1, 4, 2, 2, 2}));
        Due.due("back() with bars behind the 0", x.back(), 1);
        dueDigits(x, new int[] {6});
        x.width(0, 0);
        Due.due("read() of no bars", x.read(), -1);
    }

    private static void whatWasReadGoesOnlyWithReading() {
        DepositCodes x = new DepositCodes();
        Due.dueNoDigit(x, 0);
        Due.dueNoDigit(x, -1);
        set(x, code(new int[] {8, 5}, 1, 1, 1));
        Due.dueNoDigit(x, 0);
        Due.due("read()", x.read(), 2);
        x.width(0, 9);
        dueDigits(x, new int[] {8, 5});
        Due.dueNoDigit(x, Integer.MAX_VALUE);
        Due.dueNoDigit(x, Integer.MIN_VALUE);
        Due.due("read() of no code", x.read(), -1);
        Due.dueNoDigit(x, 0);
        x.width(0, 1);
        Due.dueNoDigit(x, 0);
        Due.due("back() again", x.back(), 2);
        set(x, code(new int[] {7}, 1, 1, 1));
        Due.due("back() of a shorter one", x.back(), 1);
        dueDigits(x, new int[] {7});
        x.width(5, 0);
        Due.due("back() of no code", x.back(), -1);
        Due.dueNoDigit(x, 0);
    }

    private static void aFullRowOf64IsNoCode() {
        DepositCodes x = new DepositCodes();
        set(x, code(new int[] {1, 2, 3, 4, 5, 6, 7, 8, 9, 0, 1, 2, 3, 4}, 1, 1, 1));
        x.width(62, 1);
        x.width(63, 1);
        Due.due("read() of 64 bars", x.read(), -1);
        Due.due("back() of 64 bars", x.back(), -1);
    }

    private static void widestBarsRead() {
        DepositCodes x = new DepositCodes();
        set(x, 1000, 1000, 1000, 250, 1000, 250, 250, 1000, 1000, 1000);
        Due.due("read() of the widest", x.read(), 1);
        dueDigits(x, new int[] {3});
    }

    private static void dueDigits(DepositCodes x, int[] digits) {
        for (int k = 0; k < digits.length; k++) {
            Due.due("digit(" + k + ")", x.digit(k), digits[k]);
        }
        Due.dueNoDigit(x, digits.length);
        Due.dueNoDigit(x, -1);
    }

    private static int[] code(int[] digits, int head, int scale, int tail) {
        int[] row = new int[6 + 4 * digits.length];
        for (int k = 0; k < 3; k++) {
            row[k] = head;
            row[row.length - 1 - k] = tail;
        }
        for (int k = 0; k < 4 * digits.length; k++) {
            row[3 + k] = scale * (PATTERNS[digits[k / 4]].charAt(k % 4) - '0');
        }
        return row;
    }

    private static int[] reversed(int[] row) {
        int[] turned = new int[row.length];
        for (int k = 0; k < row.length; k++) {
            turned[k] = row[row.length - 1 - k];
        }
        return turned;
    }

    private static void set(DepositCodes x, int... row) {
        for (int k = 0; k < row.length; k++) {
            Due.due("width(" + k + ", " + row[k] + ")", x.width(k, row[k]), true);
        }
        if (row.length < 64) {
            x.width(row.length, 0);
        }
    }
}
