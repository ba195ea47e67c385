/** Objects and serials that the tests begin with. */
final class Start {
    private Start() {
    }

    /** A new object with some machines, and shape 0 with weights 0 to 9. */
    static DepositCodes made(int machines) {
        DepositCodes x = new DepositCodes();
        for (int k = 0; k < machines; k++) {
            x.machine();
        }
        x.shape(0, 0, 9);
        return x;
    }

    /** The serial of a stem that is good by kind 0; NumbersTest looks at the digit itself. */
    static long serial(long stem) {
        return 10 * stem + new DepositCodes().check(0, stem);
    }
}
