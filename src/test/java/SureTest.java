/** Promise 12: sure. */
public final class SureTest {
    private static final long H = Check.H;
    private static final Check CHECK = new Check();

    public static void main(String[] args) {
        sumsAtTheEdges();
        differencesAtTheEdges();
        productsAtTheEdges();
        productsAddedAtTheEdges();
        productsThatLongCannotHold();
        operandsThatAreNotSure();
        targetThatIsNotSure();
        neverSureAgainByWork();
        whatIsPutIsSure();
        faultsDoNotCount();
        noSuchRegister();
        CHECK.finish();
    }

    /** "sure if the operands are and it lies in range" */
    private static void sureDue(int op, long target, long a, long b, boolean want) {
        ResidueUnit unit = Check.with(target, a, b);
        unit.work(op, 0, 1, 2);
        CHECK.due("12: work " + op + " of " + target + ", " + a + ", " + b, unit.sure(0), want);
        CHECK.due("12: a stays sure", unit.sure(1), true);
        CHECK.due("12: b stays sure", unit.sure(2), true);
    }

    private static void sumsAtTheEdges() {
        sureDue(0, 0, H - 1, 1, true);
        sureDue(0, 0, H, 0, true);
        sureDue(0, 0, H, 1, false);
        sureDue(0, 0, H, H, false);
        sureDue(0, 0, 1 - H, -1, true);
        sureDue(0, 0, -H, 0, true);
        sureDue(0, 0, -H, -1, false);
        sureDue(0, 0, -H, -H, false);
        sureDue(0, 0, -H, H, true);
    }

    private static void differencesAtTheEdges() {
        sureDue(1, 0, 1, 1 - H, true);
        sureDue(1, 0, 0, -H, true);
        sureDue(1, 0, 1, -H, false);
        sureDue(1, 0, H, -H, false);
        sureDue(1, 0, -1, H - 1, true);
        sureDue(1, 0, 0, H, true);
        sureDue(1, 0, -1, H, false);
        sureDue(1, 0, -H, H, false);
        sureDue(1, 0, H, H, true);
    }

    private static void productsAtTheEdges() {
        sureDue(2, 0, H, 1, true);
        sureDue(2, 0, H, -1, true);
        sureDue(2, 0, -H, -1, true);
        sureDue(2, 0, H, 0, true);
        sureDue(2, 0, 0, -H, true);
        sureDue(2, 0, H, 2, false);
        sureDue(2, 0, -H, 2, false);
        for (long factor : new long[] {2, 3, 7, 1000, 9357000, 1L << 31, 1L << 32, H / 2}) {
            long last = H / factor;
            sureDue(2, 0, last, factor, true);
            sureDue(2, 0, factor, -last, true);
            sureDue(2, 0, -last, -factor, true);
            sureDue(2, 0, last + 1, factor, false);
            sureDue(2, 0, factor, -last - 1, false);
            sureDue(2, 0, -last - 1, -factor, false);
        }
    }

    /** The sum has to be in range, not the product. */
    private static void productsAddedAtTheEdges() {
        sureDue(3, H - 42, 6, 7, true);
        sureDue(3, H - 41, 6, 7, false);
        sureDue(3, 42 - H, -6, 7, true);
        sureDue(3, 41 - H, -6, 7, false);
        sureDue(3, 0, H, 1, true);
        sureDue(3, 1, H, 1, false);
        sureDue(3, 0, H, -1, true);
        sureDue(3, -1, H, -1, false);
        sureDue(3, -H, 2, H, true);
        sureDue(3, 1 - H, 2, H, false);
        sureDue(3, H, -2, H, true);
        sureDue(3, H - 1, -2, H, false);
        sureDue(3, -H, H, 3, false);
        sureDue(3, H, H, -3, false);
    }

    private static void productsThatLongCannotHold() {
        long[][] factors = {{H, H}, {-H, H}, {-H, -H}, {1L << 32, 1L << 32}, {1L << 40, 1L << 24},
            {-(1L << 40), 1L << 24}, {1L << 46, 1L << 18}, {1L << 31, 1L << 32}, {-(1L << 31), 1L << 32}};
        for (long[] pair : factors) {
            for (long target : new long[] {0, 7, -7, H, -H}) {
                sureDue(2, target, pair[0], pair[1], false);
                sureDue(3, target, pair[0], pair[1], false);
            }
        }
    }

    /** An object whose register 0 is not sure, register 1 is 0 and register 2 is 5. */
    private static ResidueUnit withUnsure() {
        ResidueUnit unit = Check.with(H, 0, 5);
        unit.work(0, 0, 0, 2);
        return unit;
    }

    private static void operandsThatAreNotSure() {
        for (int op = 0; op <= 3; op++) {
            for (int other = 0; other <= 2; other++) {
                ResidueUnit unit = withUnsure();
                unit.work(op, 4, 0, other);
                CHECK.due("12: work " + op + ", a is not sure", unit.sure(4), false);
                unit.work(op, 5, other, 0);
                CHECK.due("12: work " + op + ", b is not sure", unit.sure(5), false);
            }
        }
    }

    /** "(for MULTIPLY AND ADD the target as well)" */
    private static void targetThatIsNotSure() {
        for (int op = 0; op <= 3; op++) {
            ResidueUnit unit = withUnsure();
            unit.work(op, 0, 1, 2);
            CHECK.due("12: work " + op + ", the target was not sure", unit.sure(0), op != 3);
        }
    }

    private static void neverSureAgainByWork() {
        ResidueUnit unit = withUnsure();
        unit.work(1, 0, 0, 2);
        CHECK.due("12: back in range", unit.binary(0), H);
        CHECK.due("12: but not sure", unit.sure(0), false);
        unit.work(1, 0, 0, 0);
        CHECK.due("12: less itself", unit.binary(0), 0L);
        CHECK.due("12: less itself, not sure", unit.sure(0), false);
    }

    /** "A number that is put has just itself, and is sure (in scaling and division just as in loading)." */
    private static void whatIsPutIsSure() {
        ResidueUnit unit = withUnsure();
        unit.load(0, -H);
        CHECK.due("12: loaded", unit.sure(0), true);
        unit = withUnsure();
        unit.scale(0, 0, 1, false);
        CHECK.due("12: scaled", unit.sure(0), true);
        unit = withUnsure();
        unit.divide(0, 3, 0, 2);
        CHECK.due("12: quotient", unit.sure(0), true);
        unit = withUnsure();
        unit.divide(3, 0, 2, 0);
        CHECK.due("12: remainder", unit.sure(0), true);
    }

    private static void faultsDoNotCount() {
        ResidueUnit unit = Check.with(6, 7);
        unit.inject(0, 3, 100);
        CHECK.due("12: a fault", unit.sure(0), true);
        unit.work(2, 2, 0, 1);
        CHECK.due("12: product of a fault", unit.sure(2), true);
        unit.inject(1, 4, 100);
        unit.work(0, 2, 0, 1);
        CHECK.due("12: sum of two faults", unit.sure(2), true);
        CHECK.due("12: which is beyond repair", unit.verify(2), 9);
    }

    /** "IndexOutOfBoundsException if there is no such register" */
    private static void noSuchRegister() {
        CHECK.taken("12: register 0", unit -> unit.sure(0));
        CHECK.taken("12: register 15", unit -> unit.sure(15));
        for (int wrong : Check.NO_REGISTERS) {
            CHECK.refused("12: register " + wrong, IndexOutOfBoundsException.class, unit -> unit.sure(wrong));
        }
    }
}
