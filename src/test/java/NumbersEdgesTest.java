/** Promises 6, 7 and 17 and the numbers of Terms at their edges: each method holds one sentence. */
public final class NumbersEdgesTest {
    private static final int NONE = DepositCodes.NONE;
    private static final long LARGEST = 999999999999999999L;
    private static final int[] WRONG_KINDS = {
        Integer.MIN_VALUE, Integer.MIN_VALUE + 1, -2, -1, 2, 3, 256, 65536, Integer.MAX_VALUE - 1, Integer.MAX_VALUE,
    };
    private static final long[] WRONG_NUMBERS = {
        Long.MIN_VALUE, Long.MIN_VALUE + 1, -LARGEST - 1, -LARGEST, -4294967296L, -99991, -20, -10, -1,
        LARGEST + 1, LARGEST + 2, LARGEST + 11, Long.MAX_VALUE - 7, Long.MAX_VALUE - 1, Long.MAX_VALUE,
    };

    public static void main(String[] args) {
        promise6KindsAre0And1();
        promise6NumbersAre0To18Nines();
        termsKind0AddsTheLastAndEachSecondThreeTimes();
        termsKind1DoublesAndTakes9OffAbove9();
        termsTheSumLacksNothing();
        termsNumbersBeyondAnInt();
        promise7KindsAre0And1();
        promise7NumbersAre0To18Nines();
        termsANumberOfOneDecimal();
        termsTheLastDecimalIsTheCheckDigit();
        promise17AnyNumbersAreMarked();
        promise17RestsBy99991();
        promise17MarksAre0To9999();
        promise17NoNumbersHaveNoMark();
        Due.end("NumbersEdgesTest");
    }

    private static void promise6KindsAre0And1() {
        DepositCodes x = new DepositCodes();
        Due.due("check(0, 5)", x.check(0, 5), 5);
        Due.due("check(1, 5)", x.check(1, 5), 9);
        for (int kind : WRONG_KINDS) {
            Due.due("check(" + kind + ", 0)", x.check(kind, 0), NONE);
            Due.due("check(" + kind + ", 5)", x.check(kind, 5), NONE);
            Due.due("check(" + kind + ", -1)", x.check(kind, -1), NONE);
        }
    }

    private static void promise6NumbersAre0To18Nines() {
        DepositCodes x = new DepositCodes();
        Due.due("check(0, 0)", x.check(0, 0), 0);
        Due.due("check(1, 0)", x.check(1, 0), 0);
        Due.due("check(0, largest)", x.check(0, LARGEST), 6);
        Due.due("check(1, largest)", x.check(1, LARGEST), 8);
        Due.due("check(0, largest - 1)", x.check(0, LARGEST - 1), 9);
        Due.due("check(1, largest - 1)", x.check(1, LARGEST - 1), 0);
        for (long number : WRONG_NUMBERS) {
            Due.due("check(0, " + number + ")", x.check(0, number), NONE);
            Due.due("check(1, " + number + ")", x.check(1, number), NONE);
        }
    }

    private static void termsKind0AddsTheLastAndEachSecondThreeTimes() {
        int[] once = {0, 9, 8, 7, 6, 5, 4, 3, 2, 1};
        int[] threeTimes = {0, 7, 4, 1, 8, 5, 2, 9, 6, 3};
        dueAtEachPlace(0, threeTimes, once);
    }

    private static void termsKind1DoublesAndTakes9OffAbove9() {
        int[] once = {0, 9, 8, 7, 6, 5, 4, 3, 2, 1};
        int[] doubled = {0, 8, 6, 4, 2, 9, 7, 5, 3, 1};
        dueAtEachPlace(1, doubled, once);
    }

    private static void dueAtEachPlace(int kind, int[] atEven, int[] atOdd) {
        DepositCodes x = new DepositCodes();
        long power = 1;
        for (int place = 0; place < 18; place++) {
            for (int decimal = 0; decimal < 10; decimal++) {
                int due = place % 2 == 0 ? atEven[decimal] : atOdd[decimal];
                Due.due("check(" + kind + ", " + decimal * power + ")", x.check(kind, decimal * power), due);
            }
            power *= 10;
        }
    }

    private static void termsTheSumLacksNothing() {
        DepositCodes x = new DepositCodes();
        Due.due("check(0, 13), a sum of 10", x.check(0, 13), 0);
        Due.due("check(0, 55), a sum of 20", x.check(0, 55), 0);
        Due.due("check(0, 12), a sum of 7", x.check(0, 12), 3);
        Due.due("check(0, 33), a sum of 12", x.check(0, 33), 8);
        Due.due("check(0, 3), a sum of 9", x.check(0, 3), 1);
        Due.due("check(0, 23), a sum of 11", x.check(0, 23), 9);
        Due.due("check(1, 24), a sum of 10", x.check(1, 24), 0);
        Due.due("check(1, 14), a sum of 9", x.check(1, 14), 1);
        Due.due("check(1, 34), a sum of 11", x.check(1, 34), 9);
        Due.due("check(1, 9999999999), a sum of 90", x.check(1, 9999999999L), 0);
    }

    private static void termsNumbersBeyondAnInt() {
        DepositCodes x = new DepositCodes();
        Due.due("check(0, 2147483647)", x.check(0, 2147483647L), 6);
        Due.due("check(0, 2147483648)", x.check(0, 2147483648L), 3);
        Due.due("check(0, 4294967295)", x.check(0, 4294967295L), 5);
        Due.due("check(0, 4294967296)", x.check(0, 4294967296L), 2);
        Due.due("check(0, 4294967297)", x.check(0, 4294967297L), 9);
    }

    private static void promise7KindsAre0And1() {
        DepositCodes x = new DepositCodes();
        Due.due("good(0, 0)", x.good(0, 0), true);
        Due.due("good(1, 0)", x.good(1, 0), true);
        for (int kind : WRONG_KINDS) {
            for (int last = 0; last < 10; last++) {
                Due.due("good(" + kind + ", " + last + ")", x.good(kind, last), false);
                Due.due("good(" + kind + ", 5" + last + ")", x.good(kind, 50 + last), false);
            }
        }
    }

    private static void promise7NumbersAre0To18Nines() {
        DepositCodes x = new DepositCodes();
        for (int last = 0; last < 10; last++) {
            long number = LARGEST - 9 + last;
            Due.due("good(0, " + number + ")", x.good(0, number), last == 5);
            Due.due("good(1, " + number + ")", x.good(1, number), last == 7);
        }
        for (long number : WRONG_NUMBERS) {
            Due.due("good(0, " + number + ")", x.good(0, number), false);
            Due.due("good(1, " + number + ")", x.good(1, number), false);
        }
        // One of each ten would be good if its decimals alone were looked at.
        for (int last = 0; last < 10; last++) {
            for (int kind = 0; kind < 2; kind++) {
                Due.due("good of 19 decimals, " + last, x.good(kind, LARGEST + 1 + last), false);
                Due.due("good of " + (-last - 1), x.good(kind, -last - 1), false);
                Due.due("good of less than that", x.good(kind, -last - 11), false);
            }
        }
    }

    private static void termsANumberOfOneDecimal() {
        DepositCodes x = new DepositCodes();
        for (int number = 0; number < 10; number++) {
            Due.due("good(0, " + number + ")", x.good(0, number), number == 0);
            Due.due("good(1, " + number + ")", x.good(1, number), number == 0);
        }
    }

    private static void termsTheLastDecimalIsTheCheckDigit() {
        DepositCodes x = new DepositCodes();
        int[] byKind0 = {7, 4, 1, 8, 5, 2, 9, 6, 3};
        int[] byKind1 = {8, 6, 4, 2, 9, 7, 5, 3, 1};
        for (int number = 10; number < 100; number++) {
            int stem = number / 10;
            Due.due("good(0, " + number + ")", x.good(0, number), number % 10 == byKind0[stem - 1]);
            Due.due("good(1, " + number + ")", x.good(1, number), number % 10 == byKind1[stem - 1]);
        }
        Due.due("good(0, 130), whose check digit is 0", x.good(0, 130), true);
        Due.due("good(1, 240), whose check digit is 0", x.good(1, 240), true);
        Due.due("good(0, 21474836476)", x.good(0, 21474836476L), true);
        Due.due("good(0, 42949672962)", x.good(0, 42949672962L), true);
    }

    private static void promise17AnyNumbersAreMarked() {
        DepositCodes x = new DepositCodes();
        long[] numbers = {0, 1, 9, 99989, 99990, 2147483647L, 2147483648L, 4294967296L, LARGEST - 1, LARGEST};
        for (long serial : numbers) {
            for (long key : numbers) {
                long due = Model.markOf(serial, key);
                Due.due("mark(" + serial + ", " + key + ", " + due + ")", x.mark(serial, key, due), true);
            }
        }
    }

    private static void promise17RestsBy99991() {
        DepositCodes x = new DepositCodes();
        Due.due("mark(99990, 0, 99990 * 99991)", x.mark(99990, 0, 90), true);
        Due.due("mark(99991, 0, 0)", x.mark(99991, 0, 0), true);
        Due.due("mark(99992, 0, 2)", x.mark(99992, 0, 2), true);
        Due.due("mark(0, 99990)", x.mark(0, 99990, 699930L * 1299871L % 10000), true);
        Due.due("mark(0, 99991, 0)", x.mark(0, 99991, 0), true);
        Due.due("mark(0, 99992, 98)", x.mark(0, 99992, 98), true);
        Due.due("mark(99990, 99990)", x.mark(99990, 99990, 799920L * 1399861L % 10000), true);
        Due.due("mark of multiples", x.mark(99991L * 10000000000000L, 99991L * 9999999999999L, 0), true);
    }

    private static void promise17MarksAre0To9999() {
        DepositCodes x = new DepositCodes();
        Due.due("mark(99, 0, 9900)", x.mark(99, 0, 9900), true);
        Due.due("mark(100, 0, 100)", x.mark(100, 0, 100), true);
        Due.due("mark(100, 0, 10100)", x.mark(100, 0, 10100), false);
        Due.due("mark(4999, 0, 5000)", x.mark(4999, 0, 5000), true);
        Due.due("mark(624, 0, 0)", x.mark(624, 0, 0), true);
        Due.due("mark(624, 0, 390000)", x.mark(624, 0, 390000), false);
        dueOnlyMark(99, 0, 9900);
        dueOnlyMark(624, 0, 0);
        dueOnlyMark(0, 0, 0);
        // One of the two factors is even, so 9998 is the largest mark that there is.
        dueOnlyMark(160, 61, 9998);
        dueOnlyMark(LARGEST, LARGEST, Model.markOf(LARGEST, LARGEST));
    }

    private static void dueOnlyMark(long serial, long key, long mark) {
        DepositCodes x = new DepositCodes();
        String call = "mark(" + serial + ", " + key + ", ";
        Due.due(call + mark + ")", x.mark(serial, key, mark), true);
        long[] others = {
            Long.MIN_VALUE, Long.MIN_VALUE + mark, mark - 10000, mark - 1, mark + 1, mark + 10000,
            mark + 4294967296L, mark - 4294967296L, LARGEST + 1 + mark, Long.MAX_VALUE - mark, Long.MAX_VALUE,
            -mark - 1, LARGEST,
        };
        for (long other : others) {
            Due.due(call + other + ")", x.mark(serial, key, other), false);
        }
    }

    private static void promise17NoNumbersHaveNoMark() {
        DepositCodes x = new DepositCodes();
        for (long wrong : WRONG_NUMBERS) {
            long javaRest = wrong % 99991;
            long[] shown = {
                0, Model.markOf(wrong, 0), javaRest * (javaRest + 1) % 10000,
                Model.markOf(0, wrong), 7 * javaRest * (13 * javaRest + 1) % 10000,
            };
            for (long mark : shown) {
                Due.due("mark(" + wrong + ", 0, " + mark + ")", x.mark(wrong, 0, mark), false);
                Due.due("mark(0, " + wrong + ", " + mark + ")", x.mark(0, wrong, mark), false);
                Due.due("mark(" + wrong + " twice, " + mark + ")", x.mark(wrong, wrong, mark), false);
            }
            Due.due("mark(0, 0, " + wrong + ")", x.mark(0, 0, wrong), false);
        }
    }
}
