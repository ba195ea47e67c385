/** Promises 6, 7 and 17: check digits, good numbers, marks. */
public final class NumbersTest {
    private static final long LARGEST = 999999999999999999L;

    public static void main(String[] args) {
        knownCheckDigits();
        wrongNumbersAndKinds();
        exactlyOneLastDecimalIsGood();
        goodNumbers();
        marks();
        Due.end("NumbersTest");
    }

    private static void knownCheckDigits() {
        DepositCodes x = new DepositCodes();
        Due.due("check(0, 0)", x.check(0, 0), 0);
        Due.due("check(1, 0)", x.check(1, 0), 0);
        Due.due("check(0, 1)", x.check(0, 1), 7);
        Due.due("check(1, 1)", x.check(1, 1), 8);
        int[] tripled = {0, 7, 4, 1, 8, 5, 2, 9, 6, 3};
        int[] doubled = {0, 8, 6, 4, 2, 9, 7, 5, 3, 1};
        for (int decimal = 0; decimal < 10; decimal++) {
            Due.due("check(0, " + decimal + ")", x.check(0, decimal), tripled[decimal]);
            Due.due("check(1, " + decimal + ")", x.check(1, decimal), doubled[decimal]);
            Due.due("check(0, " + decimal + "0)", x.check(0, decimal * 10), (10 - decimal) % 10);
            Due.due("check(1, " + decimal + "0)", x.check(1, decimal * 10), (10 - decimal) % 10);
        }
        Due.due("check(0, 10)", x.check(0, 10), 9);
        Due.due("check(0, 37)", x.check(0, 37), 6);
        Due.due("check(0, EAN-13)", x.check(0, 400638133393L), 1);
        Due.due("check(1, Luhn)", x.check(1, 7992739871L), 3);
        Due.due("check(0, largest)", x.check(0, LARGEST), (10 - (9 * 9 * 4) % 10) % 10);
        Due.due("check(1, largest)", x.check(1, LARGEST), (10 - (18 * 9) % 10) % 10);
        Due.due("check(0, 10^17)", x.check(0, 100000000000000000L), 9);
        Due.due("check(1, 10^16)", x.check(1, 10000000000000000L), 8);
    }

    private static void wrongNumbersAndKinds() {
        DepositCodes x = new DepositCodes();
        int[] kinds = {-1, 2, 3, Integer.MIN_VALUE, Integer.MAX_VALUE};
        for (int kind : kinds) {
            Due.due("check(" + kind + ", 0)", x.check(kind, 0), DepositCodes.NONE);
            Due.due("good(" + kind + ", 0)", x.good(kind, 0), false);
        }
        long[] numbers = {-1, -10, LARGEST + 1, 10 * (LARGEST / 10 + 1), Long.MIN_VALUE, Long.MAX_VALUE};
        for (long number : numbers) {
            for (int kind = 0; kind < 2; kind++) {
                Due.due("check(" + kind + ", " + number + ")", x.check(kind, number), DepositCodes.NONE);
                Due.due("good(" + kind + ", " + number + ")", x.good(kind, number), false);
            }
        }
    }

    private static void exactlyOneLastDecimalIsGood() {
        DepositCodes x = new DepositCodes();
        for (int kind = 0; kind < 2; kind++) {
            for (long stem = 0; stem < 40; stem++) {
                long number = stem < 20 ? stem : LARGEST / 10 - stem * 1234567891L;
                int digit = x.check(kind, number);
                for (int last = 0; last < 10; last++) {
                    long whole = 10 * number + last;
                    Due.due("good(" + kind + ", " + whole + ")", x.good(kind, whole), last == digit);
                }
            }
        }
    }

    private static void goodNumbers() {
        DepositCodes x = new DepositCodes();
        Due.due("good(0, 0)", x.good(0, 0), true);
        Due.due("good(0, 1)", x.good(0, 1), false);
        Due.due("good(1, 0)", x.good(1, 0), true);
        Due.due("good(0, 17)", x.good(0, 17), true);
        Due.due("good(1, 17)", x.good(1, 17), false);
        Due.due("good(1, 18)", x.good(1, 18), true);
        Due.due("good(0, EAN-13)", x.good(0, 4006381333931L), true);
        Due.due("good(1, EAN-13)", x.good(1, 4006381333931L), false);
        Due.due("good(1, Luhn)", x.good(1, 79927398713L), true);
        Due.due("good(0, Luhn)", x.good(0, 79927398713L), false);
    }

    private static void marks() {
        DepositCodes x = new DepositCodes();
        Due.due("mark(0, 0, 0)", x.mark(0, 0, 0), true);
        Due.due("mark(1, 0, 2)", x.mark(1, 0, 2), true);
        Due.due("mark(0, 1, 98)", x.mark(0, 1, 98), true);
        Due.due("mark(1, 1, 120)", x.mark(1, 1, 120), true);
        Due.due("mark(1, 1, 119)", x.mark(1, 1, 119), false);
        Due.due("mark(1, 1, 10120)", x.mark(1, 1, 10120), false);
        Due.due("mark(99991, 99991, 0)", x.mark(99991, 99991, 0), true);
        Due.due("mark(99992, 99991, 2)", x.mark(99992, 99991, 2), true);
        long[] numbers = {0, 1, 2, 99990, 99991, 123456789, 987654321012345678L, LARGEST};
        for (long serial : numbers) {
            for (long key : numbers) {
                long due = Model.markOf(serial, key);
                Due.due("mark(" + serial + ", " + key + ")", x.mark(serial, key, due), true);
                Due.due("mark(" + serial + ", " + key + ") less 1", x.mark(serial, key, due - 1), false);
                Due.due("mark(" + serial + ", " + key + ") more", x.mark(serial, key, due + 10000), false);
            }
        }
        Due.due("mark(-1, 0, 0)", x.mark(-1, 0, Model.markOf(-1, 0)), false);
        Due.due("mark(0, -99991, 0)", x.mark(0, -99991, 0), false);
        Due.due("mark(-99991, 0, 0)", x.mark(-99991, 0, 0), false);
        Due.due("mark(10^18, 0)", x.mark(LARGEST + 1, 0, Model.markOf(LARGEST + 1, 0)), false);
        Due.due("mark(0, 10^18)", x.mark(0, LARGEST + 1, Model.markOf(0, LARGEST + 1)), false);
        Due.due("mark(0, 0, -10000)", x.mark(0, 0, -10000), false);
        Due.due("mark(MIN..)", x.mark(Long.MIN_VALUE, Long.MIN_VALUE, Long.MIN_VALUE), false);
    }
}
