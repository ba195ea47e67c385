import java.lang.reflect.Constructor;
import java.lang.reflect.Method;
import java.lang.reflect.Modifier;
import java.util.Arrays;
import java.util.Set;
import java.util.TreeSet;

/** The public face, and promise 1. */
public final class FaceTest {
    private static final String[] FACE = {
        "int back()", "int check(int, long)", "int clear(int)", "int coupon(int)", "int digit(int)",
        "int double2(int, int)", "int fraud(int)", "int give(int, long, int, int, long)", "int join(int, int)",
        "int machine()", "int read()", "int reason()", "long cleared(int)", "long count(int, int)", "long shop(int)",
        "boolean full(int, boolean)", "boolean good(int, long)", "boolean mark(long, long, long)",
        "boolean power(int, boolean)", "boolean redeem(int, int)", "boolean shape(int, int, int)",
        "boolean width(int, int)",
    };

    public static void main(String[] args) throws Exception {
        theFaceIsTheDocuments();
        digitTellsItsException();
        aNewObjectHasNothing();
        objectsAreApart();
        Due.end("FaceTest");
    }

    private static void theFaceIsTheDocuments() {
        Set<String> found = new TreeSet<>();
        for (Method method : DepositCodes.class.getDeclaredMethods()) {
            if (Modifier.isPublic(method.getModifiers())) {
                Due.due(method.getName() + " is static", Modifier.isStatic(method.getModifiers()), false);
                found.add(signature(method));
            }
        }
        Due.due("the methods are the document's: " + found, found.equals(new TreeSet<>(Arrays.asList(FACE))), true);
        Due.due("NONE", DepositCodes.NONE, -1);
        int modifiers = DepositCodes.class.getModifiers();
        Due.due("the class is public and final", Modifier.isPublic(modifiers) && Modifier.isFinal(modifiers), true);
        Constructor<?>[] constructors = DepositCodes.class.getDeclaredConstructors();
        Due.due("constructors", constructors.length, 1);
        Due.due("the constructor is public", Modifier.isPublic(constructors[0].getModifiers()), true);
        Due.due("the constructor's parameters", constructors[0].getParameterCount(), 0);
    }

    private static String signature(Method method) {
        StringBuilder text = new StringBuilder(method.getReturnType().getName()).append(' ');
        text.append(method.getName()).append('(');
        String between = "";
        for (Class<?> parameter : method.getParameterTypes()) {
            text.append(between).append(parameter.getName());
            between = ", ";
        }
        return text.append(')').toString();
    }

    private static void digitTellsItsException() throws Exception {
        Class<?>[] told = DepositCodes.class.getMethod("digit", int.class).getExceptionTypes();
        Due.due("digit's exceptions", told.length, 1);
        Due.due("digit's exception", told.length == 1 && told[0] == ArrayIndexOutOfBoundsException.class, true);
    }

    private static void aNewObjectHasNothing() {
        DepositCodes x = new DepositCodes();
        Due.due("reason()", x.reason(), 0);
        Due.dueNoDigit(x, 0);
        Due.due("read()", x.read(), -1);
        Due.due("back()", x.back(), -1);
        Due.due("fraud(0)", x.fraud(0), -1);
        Due.due("double2(0, 0)", x.double2(0, 0), -1);
        Due.due("count(0, 0)", x.count(0, 0), -1);
        Due.due("coupon(0)", x.coupon(0), -1);
        Due.due("redeem(0, 0)", x.redeem(0, 0), false);
        Due.due("full(0)", x.full(0, true), false);
        Due.due("power(0)", x.power(0, true), false);
        Due.due("join(0, 0)", x.join(0, 0), -1);
        for (int shop = 0; shop < 100; shop++) {
            Due.due("shop(" + shop + ")", x.shop(shop), 0);
        }
        for (int system = 0; system < 3; system++) {
            Due.due("cleared(" + system + ")", x.cleared(system), 0);
        }
        Due.due("clear(0)", x.clear(0), 0);
        Due.due("machine()", x.machine(), 0);
        for (int shape = 0; shape < 8; shape++) {
            Due.due("give", x.give(0, 0, shape, 0, 0), 0);
            Due.due("reason() without spans", x.reason(), 4);
        }
    }

    /** Both are made before one is used, and all that one can tell is asked of the other. */
    private static void objectsAreApart() {
        DepositCodes one = new DepositCodes();
        DepositCodes other = new DepositCodes();
        useAll(one);
        dueNothing(other);
        Due.due("machine() of the other", other.machine(), 0);
        Due.due("give to the other without a span", other.give(0, 17, 0, 0, 0), 0);
        other.shape(0, 0, 1);
        Due.due("give to the other", other.give(0, 17, 0, 0, 0), 1);
        Due.due("reason() of the other", other.reason(), 0);
        Due.due("reason() of the one", one.reason(), 7);
    }

    private static void useAll(DepositCodes x) {
        int[] row = {1, 1, 1, 3, 2, 1, 1, 1, 1, 1};
        for (int k = 0; k < row.length; k++) {
            x.width(k, row[k]);
        }
        Due.due("read()", x.read(), 1);
        x.machine();
        x.machine();
        x.shape(0, 0, 1);
        x.give(0, 17, 0, 0, 0);
        x.give(1, 17, 0, 0, 0);
        Due.due("join(0, 1)", x.join(0, 1), 1);
        for (int k = 0; k < 3; k++) {
            x.give(1, 17, 0, 0, 0);
        }
        Due.due("fraud(0)", x.fraud(0), 1);
        Due.due("coupon(0)", x.coupon(0), 0);
        Due.due("redeem(0, 0)", x.redeem(0, 0), true);
        Due.due("clear(0)", x.clear(0), 2);
        Due.due("cleared(0)", x.cleared(0), -25);
    }

    private static void dueNothing(DepositCodes x) {
        Due.dueNoDigit(x, 0);
        Due.due("read() of the other", x.read(), -1);
        Due.due("reason() of the other", x.reason(), 0);
        Due.due("count(0, 0) of the other", x.count(0, 0), -1);
        Due.due("double2(0, 0) of the other", x.double2(0, 0), -1);
        Due.due("fraud(0) of the other", x.fraud(0), -1);
        Due.due("redeem(0, 1) of the other", x.redeem(0, 1), false);
        Due.due("shop(0) of the other", x.shop(0), 0);
        Due.due("cleared(0) of the other", x.cleared(0), 0);
    }
}
