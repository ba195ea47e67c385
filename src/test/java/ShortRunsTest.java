import java.util.List;
import java.util.function.Consumer;

/** All runs of a few calls out of small sets of calls, each looked at in full afterwards, against the model. */
public final class ShortRunsTest {
    private static final long ONE = 17;
    private static final long OTHER = 24;
    private static final long MONTH = 2592000L;

    private record Step(String name, Consumer<Both> made) {
    }

    private record Theme(Consumer<Both> begin, List<Step> steps, Consumer<Both> look) {
    }

    public static void main(String[] args) {
        allRuns(5, setsAndDoubles());
        allRuns(6, refusalsAndFrauds());
        allRuns(5, machinesAndSpans());
        allRuns(5, couponsAndShops());
        allRuns(5, months());
        rowsOfTwoGroups();
        rowsOfTwoWidths();
        Due.end("ShortRunsTest");
    }

    /** Runs are numbered, and the digits of a run's number by the count of steps are its steps. */
    private static void allRuns(int length, Theme theme) {
        int steps = theme.steps().size();
        int runs = 1;
        for (int k = 0; k < length; k++) {
            runs *= steps;
        }
        for (int run = 0; run < runs; run++) {
            StringBuilder name = new StringBuilder("run");
            for (int k = 0, left = run; k < length; k++, left /= steps) {
                name.append(' ').append(theme.steps().get(left % steps).name());
            }
            Both both = new Both(name.toString());
            theme.begin().accept(both);
            for (int k = 0, left = run; k < length; k++, left /= steps) {
                theme.steps().get(left % steps).made().accept(both);
            }
            theme.look().accept(both);
        }
    }

    private static Theme setsAndDoubles() {
        List<Step> steps = List.of(
            giving("0a", 0, ONE), giving("1a", 1, ONE), giving("2a", 2, ONE), giving("1b", 1, OTHER),
            giving("2b", 2, OTHER), joining(0, 1), joining(1, 0), joining(1, 2), joining(2, 0));
        return new Theme(x -> begin(x, 3), steps, x -> {
            lookAtDoubles(x, 3);
            for (int machine = 0; machine < 3; machine++) {
                x.count(machine, 0);
                x.coupon(machine);
                x.redeem(machine, machine);
                x.shop(machine);
            }
        });
    }

    private static Theme refusalsAndFrauds() {
        List<Step> steps = List.of(
            giving("0a", 0, ONE), giving("1a", 1, ONE), giving("1b", 1, OTHER), giving("bad", 0, ONE + 1),
            joining(1, 0), new Step("none", x -> x.give(0, -1, 0, 0, 0)));
        return new Theme(x -> begin(x, 2), steps, x -> {
            x.reason();
            for (int k = 0; k < 3; k++) {
                x.fraud(k);
            }
        });
    }

    private static Theme machinesAndSpans() {
        List<Step> steps = List.of(
            new Step("machine", Both::machine),
            new Step("full", x -> x.full(0, true)), new Step("emptied", x -> x.full(0, false)),
            new Step("dark", x -> x.power(0, false)), new Step("powered", x -> x.power(0, true)),
            new Step("span5", x -> x.shape(0, 5, 5)), new Step("span6", x -> x.shape(0, 6, 9)),
            new Step("nospan", x -> x.shape(0, 6, 5)), new Step("give5", x -> x.give(0, ONE, 0, 5, 0)));
        return new Theme(x -> { }, steps, x -> {
            x.reason();
            x.give(0, OTHER, 0, 6, 0);
            x.reason();
            x.count(0, 0);
            x.coupon(0);
        });
    }

    private static Theme couponsAndShops() {
        List<Step> steps = List.of(
            giving("0a", 0, ONE), giving("0b", 0, OTHER), giving("1a", 1, ONE),
            new Step("coupon0", x -> x.coupon(0)), new Step("coupon1", x -> x.coupon(1)),
            new Step("dark0", x -> x.power(0, false)), new Step("powered0", x -> x.power(0, true)),
            new Step("redeem0at1", x -> x.redeem(0, 1)), new Step("redeem0at2", x -> x.redeem(0, 2)),
            new Step("redeem1at1", x -> x.redeem(1, 1)));
        return new Theme(x -> begin(x, 2), steps, x -> {
            x.shop(1);
            x.shop(2);
            x.redeem(0, 3);
            x.redeem(1, 3);
            x.shop(3);
            x.coupon(0);
            x.coupon(1);
        });
    }

    private static Theme months() {
        List<Step> steps = List.of(
            given("0in0", 0, ONE, 0), given("0in1", 0, OTHER, MONTH), given("1in0", 1, ONE, MONTH - 1),
            given("2in1", 2, ONE, MONTH), given("1late", 1, 31, 2 * MONTH - 1), joining(0, 1),
            new Step("clear0", x -> x.clear(0)), new Step("clear1", x -> x.clear(1)),
            new Step("clear-1", x -> x.clear(-1)));
        return new Theme(x -> begin(x, 3), steps, x -> {
            lookAtBalances(x);
            x.clear(0);
            lookAtBalances(x);
            x.clear(1);
            lookAtBalances(x);
        });
    }

    /** Each group is a pattern, or one turned: only rows whose groups are all of one kind are codes. */
    private static void rowsOfTwoGroups() {
        for (int first = 0; first < 20; first++) {
            for (int second = 0; second < 20; second++) {
                String row = "111" + group(first) + group(second) + "222";
                Both both = new Both("row " + row);
                write(both, row);
                lookAtDigits(both, 3);
            }
        }
    }

    private static String group(int k) {
        StringBuilder pattern = new StringBuilder(Model.PATTERNS.get(k % 10));
        return (k < 10 ? pattern : pattern.reverse()).toString();
    }

    /** Rows of ten widths 1 or 2, with a 0 put in at each place too. */
    private static void rowsOfTwoWidths() {
        for (int bits = 0; bits < 1024; bits++) {
            StringBuilder row = new StringBuilder();
            for (int k = 0; k < 10; k++) {
                row.append(1 + (bits >> k & 1));
            }
            Both both = new Both("row " + row);
            write(both, row.toString());
            lookAtDigits(both, 2);
            both.width(bits % 10, 0);
            lookAtDigits(both, 2);
        }
    }

    private static void write(Both both, String row) {
        for (int k = 0; k < row.length(); k++) {
            both.width(k, row.charAt(k) - '0');
        }
    }

    private static void lookAtDigits(Both both, int digits) {
        both.read();
        for (int k = 0; k < digits; k++) {
            both.digit(k);
        }
        both.back();
        for (int k = 0; k < digits; k++) {
            both.digit(k);
        }
    }

    private static void begin(Both both, int machines) {
        for (int k = 0; k < machines; k++) {
            both.machine();
        }
        both.shape(0, 0, 0);
    }

    private static Step giving(String name, int machine, long serial) {
        return given(name, machine, serial, 0);
    }

    private static Step given(String name, int machine, long serial, long second) {
        return new Step(name, x -> x.give(machine, serial, 0, 0, second));
    }

    private static Step joining(int a, int b) {
        return new Step("join" + a + b, x -> x.join(a, b));
    }

    private static void lookAtDoubles(Both both, int doubles) {
        for (int k = 0; k < doubles; k++) {
            for (int what = 0; what < 6; what++) {
                both.double2(k, what);
            }
        }
    }

    private static void lookAtBalances(Both both) {
        for (int system = 0; system < 3; system++) {
            both.cleared(system);
        }
    }
}
