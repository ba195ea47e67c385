/** Promises 1 to 5 and the bars of Terms at their edges: each method holds one sentence. */
public final class BarsEdgesTest {
    private static final int NONE = DepositCodes.NONE;
    private static final int MIN = Integer.MIN_VALUE;
    private static final int MAX = Integer.MAX_VALUE;
    private static final int[][] PATTERNS = {
        {3, 2, 1, 1}, {2, 2, 2, 1}, {2, 1, 2, 2}, {1, 4, 1, 1}, {1, 1, 3, 2},
        {1, 2, 3, 1}, {1, 1, 1, 4}, {1, 3, 1, 2}, {1, 2, 1, 3}, {3, 1, 1, 2},
    };
    private static final int[] WIDEST_SCALES = {333, 500, 500, 250, 333, 333, 250, 333, 333, 333};

    public static void main(String[] args) {
        promise1NoBars();
        promise1NothingWasRead();
        promise2WidthNumbersAre0To63();
        promise2WidthsAre0To1000();
        promise2EveryWidthCanBeSetAgain();
        termsTheRowEndsBeforeItsFirstZero();
        termsTheRowMayBeAll64();
        termsOneOrMoreGroupsOfFour();
        termsTheFirstThreeAreTheSame();
        termsTheLastThreeAreTheSame();
        termsThePatternsAndNoOthersAreDigits();
        termsPatternsFromNarrowestToWidest();
        termsAllGroupsAreReadTheSameWay();
        promise3ReadsBackIfNoCodeForward();
        promise3WhatWasReadBeforeGoes();
        promise4ReadsForwardIfNoCodeBack();
        promise4WhatWasReadBeforeGoes();
        promise5DigitsAreFrom0On();
        promise5OfWhatWasReadLatest();
        Due.end("BarsEdgesTest");
    }

    private static void promise1NoBars() {
        DepositCodes x = new DepositCodes();
        Due.due("read() of no bars", x.read(), NONE);
        Due.due("back() of no bars", x.back(), NONE);
        // Had the width behind a code not been 0 at first, the row would not end there.
        for (int length = 10; length <= 62; length += 4) {
            DepositCodes y = new DepositCodes();
            writeWithoutEnd(y, row(zeros((length - 6) / 4), 1, 1, 1));
            Due.due("read() of " + length + " first bars", y.read(), (length - 6) / 4);
        }
    }

    private static void promise1NothingWasRead() {
        DepositCodes x = new DepositCodes();
        int[] asked = {MIN, -1, 0, 1, 13, 14, 63, 64, MAX};
        for (int k : asked) {
            Due.dueNoDigit(x, k);
        }
        write(x, row(new int[] {5}, 1, 1, 1));
        Due.dueNoDigit(x, 0);
    }

    private static void promise2WidthNumbersAre0To63() {
        for (int k = 0; k < 64; k++) {
            DepositCodes x = new DepositCodes();
            Due.due("width(" + k + ", 1)", x.width(k, 1), true);
        }
        int[] wrong = {MIN, MIN + 1, -64, -1, 64, 65, 128, 65536, MAX - 1, MAX};
        for (int k : wrong) {
            DepositCodes x = new DepositCodes();
            write(x, row(new int[] {5}, 1, 1, 1));
            Due.due("width(" + k + ", 9)", x.width(k, 9), false);
            Due.due("width(" + k + ", 0)", x.width(k, 0), false);
            Due.due("read() after it", x.read(), 1);
            dueDigits(x, 5);
        }
    }

    private static void promise2WidthsAre0To1000() {
        int[] right = {0, 1, 999, 1000};
        for (int v : right) {
            DepositCodes x = new DepositCodes();
            Due.due("width(0, " + v + ")", x.width(0, v), true);
            Due.due("width(63, " + v + ")", x.width(63, v), true);
        }
        int[] wrong = {MIN, MIN + 1, -1000, -1, 1001, 65536, 65537, MAX - 1, MAX};
        for (int v : wrong) {
            DepositCodes x = new DepositCodes();
            write(x, row(new int[] {5}, 1, 1, 1));
            for (int k = 0; k < 64; k += 9) {
                Due.due("width(" + k + ", " + v + ")", x.width(k, v), false);
            }
            Due.due("read() after widths of " + v, x.read(), 1);
            dueDigits(x, 5);
        }
    }

    private static void promise2EveryWidthCanBeSetAgain() {
        int[] long14 = {1, 2, 3, 4, 5, 6, 7, 8, 9, 0, 1, 2, 3, 4};
        int[] row = row(long14, 1, 1, 1);
        for (int k = 0; k < row.length; k++) {
            DepositCodes x = new DepositCodes();
            write(x, row);
            Due.due("width(" + k + ", 1000)", x.width(k, 1000), true);
            Due.due("read() with width " + k + " wrong", x.read(), NONE);
            Due.due("width(" + k + ") as before", x.width(k, row[k]), true);
            Due.due("read() with width " + k + " right", x.read(), 14);
            dueDigits(x, long14);
        }
    }

    private static void termsTheRowEndsBeforeItsFirstZero() {
        int[] row = row(new int[] {1, 1, 1}, 2, 2, 2);
        for (int zero = 0; zero < row.length; zero++) {
            DepositCodes x = new DepositCodes();
            write(x, row);
            x.width(zero, 0);
            // A 1 begins with three that are the same, so a 0 behind these ends a shorter code.
            int due = zero == 10 ? 1 : zero == 14 ? 2 : NONE;
            Due.due("read() with a 0 at " + zero, x.read(), due);
            Due.due("back() with a 0 at " + zero, x.back(), due);
        }
        for (int behind = row.length + 1; behind < 64; behind++) {
            DepositCodes x = new DepositCodes();
            write(x, row);
            x.width(behind, 3);
            Due.due("read() with a bar at " + behind + " behind the 0", x.read(), 3);
            Due.due("back() with a bar at " + behind + " behind the 0", x.back(), 3);
        }
        DepositCodes x = new DepositCodes();
        write(x, row);
        x.width(row.length, 2);
        Due.due("read() with a bar in place of the 0", x.read(), NONE);
    }

    private static void termsTheRowMayBeAll64() {
        for (int length = 62; length <= 64; length++) {
            DepositCodes x = new DepositCodes();
            writeWithoutEnd(x, row(zeros(14), 1, 1, 1));
            for (int k = 62; k < length; k++) {
                x.width(k, 1);
            }
            Due.due("read() of " + length, x.read(), length == 62 ? 14 : NONE);
            Due.due("back() of " + length, x.back(), length == 62 ? 14 : NONE);
        }
    }

    private static void termsOneOrMoreGroupsOfFour() {
        int[] all = row(zeros(14), 1, 1, 1);
        for (int length = 0; length <= 61; length++) {
            DepositCodes x = new DepositCodes();
            for (int k = 0; k < length; k++) {
                x.width(k, k < length - 3 ? all[k] : 1);
            }
            int due = length >= 10 && length % 4 == 2 ? (length - 6) / 4 : NONE;
            Due.due("read() of " + length + " bars", x.read(), due);
            Due.due("back() of " + length + " bars", x.back(), due);
        }
    }

    private static void termsTheFirstThreeAreTheSame() {
        dueEdge(0, 5, 1000);
        dueEdge(0, 2, 3);
        dueEdge(0, 1, 2);
    }

    private static void termsTheLastThreeAreTheSame() {
        dueEdge(11, 5, 1000);
        dueEdge(11, 2, 3);
        dueEdge(11, 1, 2);
    }

    /** Two digits stand between the edges, so the edges begin at 0 and at 11. */
    private static void dueEdge(int start, int width, int other) {
        for (int k = 0; k < 8; k++) {
            DepositCodes x = new DepositCodes();
            write(x, row(new int[] {9, 6}, 7, 1, 7));
            for (int place = 0; place < 3; place++) {
                x.width(start + place, (k >> place & 1) == 0 ? width : other);
            }
            int due = k == 0 || k == 7 ? 2 : NONE;
            Due.due("read() with the three at " + start + " as bits " + k, x.read(), due);
            Due.due("back() with the three at " + start + " as bits " + k, x.back(), due);
        }
    }

    private static void termsThePatternsAndNoOthersAreDigits() {
        int[] group = new int[4];
        DepositCodes x = new DepositCodes();
        write(x, row(new int[] {0}, 1, 1, 1));
        for (int k = 0; k < 4096; k++) {
            if (k % 80 == 0) {
                x = new DepositCodes();
                write(x, row(new int[] {0}, 1, 1, 1));
            }
            for (int place = 0; place < 4; place++) {
                group[place] = 1 + (k >> 3 * place & 7);
                x.width(3 + place, group[place]);
            }
            int due = digitOf(group);
            String what = group[0] + " " + group[1] + " " + group[2] + " " + group[3];
            Due.due("read() of " + what, x.read(), due == NONE ? NONE : 1);
            if (due != NONE) {
                Due.due("digit(0) of " + what, x.digit(0), due);
            }
        }
    }

    /** All of a pattern's numbers have 1 as their largest divisor, so a digit is a whole multiple of its pattern. */
    private static int digitOf(int[] group) {
        for (int digit = 0; digit < 10; digit++) {
            for (int scale = 1; scale <= 8; scale++) {
                boolean forward = true;
                boolean back = true;
                for (int k = 0; k < 4; k++) {
                    forward &= group[k] == scale * PATTERNS[digit][k];
                    back &= group[3 - k] == scale * PATTERNS[digit][k];
                }
                if (forward || back) {
                    return digit;
                }
            }
        }
        return NONE;
    }

    private static void termsPatternsFromNarrowestToWidest() {
        for (int digit = 0; digit < 10; digit++) {
            int[] scales = {1, 2, WIDEST_SCALES[digit] - 1, WIDEST_SCALES[digit]};
            for (int scale : scales) {
                DepositCodes x = new DepositCodes();
                int[] row = row(new int[] {digit}, 1000, scale, 1);
                write(x, row);
                Due.due("read() of " + digit + " at scale " + scale, x.read(), 1);
                dueDigits(x, digit);
                for (int k = 3; k < 7; k++) {
                    x.width(k, row[k] - 1);
                    Due.due("read() with " + k + " too narrow", x.read(), NONE);
                    x.width(k, row[k] == 1000 ? 998 : row[k] + 1);
                    Due.due("read() with " + k + " too wide", x.read(), NONE);
                    x.width(k, row[k]);
                }
                Due.due("back() of " + digit + " at scale " + scale, x.back(), 1);
            }
        }
    }

    private static void termsAllGroupsAreReadTheSameWay() {
        for (int way = 0; way < 8; way++) {
            DepositCodes x = new DepositCodes();
            int[] row = row(new int[] {0, 5, 6}, 1, 1, 1);
            for (int group = 0; group < 3; group++) {
                if ((way >> group & 1) == 1) {
                    turn(row, 3 + 4 * group, 4);
                }
            }
            write(x, row);
            int due = way == 0 || way == 7 ? 3 : NONE;
            Due.due("read() with groups turned as bits " + way, x.read(), due);
            Due.due("back() with groups turned as bits " + way, x.back(), due);
            if (way == 7) {
                dueDigits(x, 6, 5, 0);
            }
        }
    }

    private static void promise3ReadsBackIfNoCodeForward() {
        for (int digit = 0; digit < 10; digit++) {
            DepositCodes x = new DepositCodes();
            int[] digits = {digit, (digit + 3) % 10};
            int[] row = row(digits, 4, 2, 9);
            write(x, row);
            Due.due("read() forward", x.read(), 2);
            dueDigits(x, digits);
            turn(row, 0, row.length);
            write(x, row);
            Due.due("read() of the turned row", x.read(), 2);
            dueDigits(x, digits);
        }
    }

    private static void promise3WhatWasReadBeforeGoes() {
        DepositCodes x = new DepositCodes();
        write(x, row(new int[] {4, 4}, 1, 1, 1));
        Due.due("read()", x.read(), 2);
        x.width(4, 0);
        Due.due("read() of no code", x.read(), NONE);
        Due.dueNoDigit(x, 0);
        Due.dueNoDigit(x, 1);
        Due.due("read() of no code again", x.read(), NONE);
        x.width(4, 1);
        Due.dueNoDigit(x, 0);
        Due.due("read() of the code again", x.read(), 2);
        dueDigits(x, 4, 4);
    }

    private static void promise4ReadsForwardIfNoCodeBack() {
        for (int digit = 0; digit < 10; digit++) {
            DepositCodes x = new DepositCodes();
            int[] digits = {digit, (digit + 3) % 10};
            int[] row = row(digits, 4, 2, 9);
            turn(row, 0, row.length);
            write(x, row);
            Due.due("back() of the turned row", x.back(), 2);
            dueDigits(x, digits);
            turn(row, 0, row.length);
            write(x, row);
            Due.due("back() of the row", x.back(), 2);
            dueDigits(x, digits);
        }
    }

    private static void promise4WhatWasReadBeforeGoes() {
        DepositCodes x = new DepositCodes();
        write(x, row(new int[] {4, 4}, 1, 1, 1));
        Due.due("back()", x.back(), 2);
        x.width(13, 2);
        Due.due("back() of no code", x.back(), NONE);
        Due.dueNoDigit(x, 0);
        Due.dueNoDigit(x, 1);
        x.width(13, 1);
        Due.due("back() of the code again", x.back(), 2);
        dueDigits(x, 4, 4);
    }

    private static void promise5DigitsAreFrom0On() {
        for (int count = 1; count <= 14; count++) {
            DepositCodes x = new DepositCodes();
            int[] digits = new int[count];
            for (int k = 0; k < count; k++) {
                digits[k] = (k + count) % 10;
            }
            write(x, row(digits, 1, 1, 1));
            Due.due("read() of " + count + " digits", x.read(), count);
            dueDigits(x, digits);
            int[] wrong = {MIN, MIN + 1, -count, count + 1, 14, 64, MAX - 1, MAX};
            for (int k : wrong) {
                Due.dueNoDigit(x, k);
            }
            dueDigits(x, digits);
        }
    }

    private static void promise5OfWhatWasReadLatest() {
        DepositCodes x = new DepositCodes();
        write(x, row(new int[] {1, 2, 3}, 1, 1, 1));
        x.read();
        write(x, row(new int[] {9}, 1, 1, 1));
        dueDigits(x, 1, 2, 3);
        Due.due("back() of a shorter one", x.back(), 1);
        dueDigits(x, 9);
        write(x, row(new int[] {8, 7}, 1, 1, 1));
        dueDigits(x, 9);
        Due.due("read() of a longer one", x.read(), 2);
        dueDigits(x, 8, 7);
        x.width(0, 1001);
        x.width(64, 0);
        dueDigits(x, 8, 7);
    }

    private static void dueDigits(DepositCodes x, int... digits) {
        for (int k = 0; k < digits.length; k++) {
            Due.due("digit(" + k + ")", x.digit(k), digits[k]);
        }
        Due.dueNoDigit(x, -1);
        Due.dueNoDigit(x, digits.length);
    }

    private static int[] zeros(int count) {
        return new int[count];
    }

    private static int[] row(int[] digits, int head, int scale, int tail) {
        int[] row = new int[6 + 4 * digits.length];
        for (int k = 0; k < 3; k++) {
            row[k] = head;
            row[row.length - 1 - k] = tail;
        }
        for (int k = 0; k < 4 * digits.length; k++) {
            row[3 + k] = scale * PATTERNS[digits[k / 4]][k % 4];
        }
        return row;
    }

    private static void turn(int[] row, int start, int length) {
        for (int k = 0; k < length / 2; k++) {
            int kept = row[start + k];
            row[start + k] = row[start + length - 1 - k];
            row[start + length - 1 - k] = kept;
        }
    }

    private static void write(DepositCodes x, int[] row) {
        writeWithoutEnd(x, row);
        x.width(row.length, 0);
    }

    private static void writeWithoutEnd(DepositCodes x, int[] row) {
        for (int k = 0; k < row.length; k++) {
            Due.due("width(" + k + ", " + row[k] + ")", x.width(k, row[k]), true);
        }
    }
}
