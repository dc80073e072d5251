/** Promise 7: divide. */
public final class DivideTest {
    private static final long H = Check.H;
    private static final Check CHECK = new Check();

    public static void main(String[] args) {
        signs();
        edges();
        sharedRegisters();
        remainderGoesLast();
        valueOfWhatIsNotGood();
        sureThoughTheOperandsAreNot();
        noSuchRegister();
        byZero();
        registerBeforeZero();
        CHECK.finish();
    }

    private static void divideDue(long a, long b, long quotient, long remainder) {
        ResidueUnit unit = Check.with(77, 77, a, b);
        unit.divide(0, 1, 2, 3);
        String what = "7: divide " + a + " by " + b;
        CHECK.putDue(what + ", quotient", unit, 0, quotient);
        CHECK.putDue(what + ", remainder", unit, 1, remainder);
        CHECK.putDue(what + " leaves a", unit, 2, a);
        CHECK.putDue(what + " leaves b", unit, 3, b);
    }

    /** "the quotient of two values towards 0, and the remainder, with the dividend's sign" */
    private static void signs() {
        divideDue(7, 2, 3, 1);
        divideDue(-7, 2, -3, -1);
        divideDue(7, -2, -3, 1);
        divideDue(-7, -2, 3, -1);
        divideDue(6, 7, 0, 6);
        divideDue(-6, 7, 0, -6);
        divideDue(7, 7, 1, 0);
        divideDue(-7, 7, -1, 0);
        divideDue(0, -7, 0, 0);
    }

    private static void edges() {
        divideDue(H, 1, H, 0);
        divideDue(H, -1, -H, 0);
        divideDue(-H, 1, -H, 0);
        divideDue(-H, -1, H, 0);
        divideDue(H, H, 1, 0);
        divideDue(-H, H, -1, 0);
        divideDue(H - 1, H, 0, H - 1);
        divideDue(1 - H, H, 0, 1 - H);
        divideDue(H, H - 1, 1, 1);
        divideDue(-H, H - 1, -1, -1);
        divideDue(H, 2, (H - 1) / 2, 1);
        divideDue(-H, 2, (1 - H) / 2, -1);
        divideDue(1, H, 0, 1);
        divideDue(-1, -H, 0, -1);
    }

    private static void sharedRegisters() {
        ResidueUnit unit = Check.with(-100, 7);
        unit.divide(0, 1, 0, 1);
        CHECK.putDue("7: quotient over the dividend", unit, 0, -14);
        CHECK.putDue("7: remainder over the divisor", unit, 1, -2);
        unit = Check.with(-100, 7);
        unit.divide(1, 0, 0, 1);
        CHECK.putDue("7: quotient over the divisor", unit, 1, -14);
        CHECK.putDue("7: remainder over the dividend", unit, 0, -2);
        unit = Check.with(-100);
        unit.divide(15, 1, 0, 0);
        CHECK.putDue("7: quotient of the same into 15", unit, 15, 1);
        CHECK.putDue("7: remainder of the same", unit, 1, 0);
        unit.divide(1, 15, 15, 0);
        CHECK.putDue("7: remainder into 15", unit, 15, 1);
    }

    /** "the remainder into r (which goes last)" */
    private static void remainderGoesLast() {
        ResidueUnit unit = Check.with(-100, 7);
        unit.divide(2, 2, 0, 1);
        CHECK.putDue("7: both into one", unit, 2, -2);
        unit.divide(1, 1, 0, 1);
        CHECK.putDue("7: both over the divisor", unit, 1, -2);
    }

    private static void valueOfWhatIsNotGood() {
        ResidueUnit unit = Check.with(-100, 7);
        unit.inject(0, 8, 1);
        unit.inject(1, 7, 9);
        unit.divide(2, 3, 0, 1);
        CHECK.putDue("7: quotient of the values", unit, 2, -14);
        CHECK.putDue("7: remainder of the values", unit, 3, -2);
    }

    /** "is sure (in scaling and division just as in loading)" */
    private static void sureThoughTheOperandsAreNot() {
        ResidueUnit unit = Check.with(H, 1, -2);
        unit.work(0, 3, 0, 1);
        unit.divide(4, 5, 3, 2);
        CHECK.putDue("7: H + 1 is -H, quotient", unit, 4, (H - 1) / 2);
        CHECK.putDue("7: H + 1 is -H, remainder", unit, 5, -1);
        unit.divide(3, 6, 0, 3);
        CHECK.putDue("7: by -H, quotient", unit, 3, -1);
        CHECK.putDue("7: by -H, remainder", unit, 6, 0);
    }

    /** "IndexOutOfBoundsException if there is no such register" */
    private static void noSuchRegister() {
        CHECK.taken("7: registers 0 and 15", unit -> unit.divide(15, 0, 15, 1));
        for (int wrong : Check.NO_REGISTERS) {
            CHECK.refused("7: q " + wrong, IndexOutOfBoundsException.class, unit -> unit.divide(wrong, 5, 6, 7));
            CHECK.refused("7: r " + wrong, IndexOutOfBoundsException.class, unit -> unit.divide(5, wrong, 6, 7));
            CHECK.refused("7: a " + wrong, IndexOutOfBoundsException.class, unit -> unit.divide(5, 6, wrong, 7));
            CHECK.refused("7: b " + wrong, IndexOutOfBoundsException.class, unit -> unit.divide(5, 6, 7, wrong));
        }
    }

    /** "ArithmeticException if the value of b is 0" */
    private static void byZero() {
        CHECK.refused("7: by 0", ArithmeticException.class, unit -> unit.divide(5, 6, 7, Check.ZERO));
        CHECK.refused("7: 0 by 0", ArithmeticException.class, unit -> unit.divide(5, 6, Check.ZERO, Check.ZERO));
        CHECK.taken("7: by 1", unit -> unit.divide(5, 6, 7, 1));
        CHECK.taken("7: by -1", unit -> unit.divide(5, 6, 7, 2));
        valueZeroThatIsNotGood();
        for (int k = 1; k <= 6; k++) {
            ResidueUnit unit = Check.with(5, 0);
            unit.inject(1, k, 1);
            unit.divide(2, 3, 0, 1);
            CHECK.putDue("7: by a value that is not 0, channel " + k, unit, 3, 5);
        }
    }

    private static void valueZeroThatIsNotGood() {
        for (int k = 7; k <= 8; k++) {
            ResidueUnit unit = Check.with(5, 0, 77, 78);
            unit.inject(1, k, 1);
            Class<?> thrown = null;
            try {
                unit.divide(2, 3, 0, 1);
            } catch (ArithmeticException e) {
                thrown = e.getClass();
            }
            CHECK.due("7: by the value 0, channel " + k + " off", thrown, ArithmeticException.class);
            CHECK.putDue("7: q stays", unit, 2, 77);
            CHECK.putDue("7: r stays", unit, 3, 78);
        }
    }

    /** "of two exceptions the one that it names first is thrown" */
    private static void registerBeforeZero() {
        for (int wrong : new int[] {-1, 16}) {
            CHECK.refused("7: by 0, q " + wrong, IndexOutOfBoundsException.class, unit -> unit.divide(wrong, 5, 6, Check.ZERO));
            CHECK.refused("7: by 0, r " + wrong, IndexOutOfBoundsException.class, unit -> unit.divide(5, wrong, 6, Check.ZERO));
            CHECK.refused("7: by 0, a " + wrong, IndexOutOfBoundsException.class, unit -> unit.divide(5, 6, wrong, Check.ZERO));
        }
    }
}
