/** Promises 12 and 13: sure, bound. */
public final class TrustTest {
    private static final long H = 87553987462305L;
    private static final int[] NO_REGISTERS = {-1, 16, Integer.MAX_VALUE, Integer.MIN_VALUE};
    private static final Check CHECK = new Check();

    public static void main(String[] args) {
        edgesOfRange();
        productsThatLongCannotHold();
        unsureOperands();
        intervalsOutliveFaults();
        refuses();
        CHECK.finish();
    }

    private static void sureDue(int op, long target, long a, long b, long want) {
        ResidueUnit unit = Check.with(target, a, b);
        unit.work(op, 0, 1, 2);
        String what = "work " + op + " of " + target + ", " + a + ", " + b;
        CHECK.due("12: " + what, unit.sure(0), true);
        CHECK.due("13: " + what + ", least", unit.bound(0, 0), want);
        CHECK.due("13: " + what + ", greatest", unit.bound(0, 1), want);
    }

    private static void unsureDue(int op, long target, long a, long b) {
        ResidueUnit unit = Check.with(target, a, b);
        unit.work(op, 0, 1, 2);
        String what = "work " + op + " of " + target + ", " + a + ", " + b;
        CHECK.due("12: " + what, unit.sure(0), false);
        CHECK.refused("13: " + what, unit, IllegalStateException.class, () -> unit.bound(0, 0));
        CHECK.refused("13: " + what, unit, IllegalStateException.class, () -> unit.bound(0, 1));
    }

    private static void edgesOfRange() {
        sureDue(0, H, H - 1, 1, H);
        unsureDue(0, 0, H, 1);
        sureDue(0, H, 1 - H, -1, -H);
        unsureDue(0, 0, -H, -1);
        sureDue(1, H, -1, H - 1, -H);
        unsureDue(1, 0, -1, H);
        sureDue(1, H, 1, 1 - H, H);
        unsureDue(1, 0, 1, -H);
        sureDue(2, H, 9356987, 9357070, 9356987L * 9357070);
        unsureDue(2, 0, 9357088, 9357088);
        sureDue(2, H, H, -1, -H);
        sureDue(2, H, 0, H, 0);
        sureDue(2, H, H, 0, 0);
        sureDue(3, 5, 6, 7, 47);
        unsureDue(3, 1, H, 1);
        unsureDue(3, -1, H, -1);
        sureDue(3, -H, 2, H, H);
        sureDue(3, H, -2, H, -H);
        unsureDue(3, -H + 1, 2, H);
        unsureDue(3, H - 1, 2, -H);
    }

    private static void productsThatLongCannotHold() {
        unsureDue(2, 0, H, H);
        unsureDue(2, 0, -H, H);
        unsureDue(2, 0, 1L << 32, 1L << 32);
        unsureDue(3, 7, 1L << 32, 1L << 32);
        unsureDue(3, 7, 1L << 40, 1L << 24);
        unsureDue(3, -7, -(1L << 40), 1L << 24);
        unsureDue(3, H, H, H);
        unsureDue(3, -H, H, H);
        unsureDue(3, -H, 3, H);
        unsureDue(3, H, -H, 3);
    }

    private static void unsureOperands() {
        for (int op = 0; op <= 3; op++) {
            ResidueUnit unit = Check.with(H, 1, 0);
            unit.work(0, 5, 0, 1);
            unit.work(op, 6, 5, 2);
            CHECK.due("12: op " + op + ", a is not sure", unit.sure(6), false);
            unit.work(op, 6, 2, 5);
            CHECK.due("12: op " + op + ", b is not sure", unit.sure(6), false);
            unit.work(op, 5, 1, 2);
            CHECK.due("12: op " + op + ", the target was not sure", unit.sure(5), op != 3);
        }
        ResidueUnit unit = Check.with(H, 1);
        unit.work(0, 5, 0, 1);
        unit.work(1, 5, 5, 1);
        CHECK.due("12: back in range", unit.sure(5), false);
        CHECK.due("12: though it is good", unit.binary(5), H);
        unit.load(5, 3);
        CHECK.due("12: put anew", unit.sure(5), true);
    }

    private static void intervalsOutliveFaults() {
        ResidueUnit unit = Check.with(6, 7);
        unit.inject(0, 3, 100);
        unit.work(2, 2, 0, 1);
        CHECK.due("12: product of a faulty register", unit.sure(2), true);
        CHECK.due("13: product of a faulty register", unit.bound(2, 0), 42L);
        CHECK.due("10: product of a faulty register", unit.verify(2), 3);
        CHECK.due("11: product of a faulty register", unit.repair(2), 3);
        CHECK.due("3: product of a faulty register", unit.binary(2), 42L);
    }

    private static void refuses() {
        for (int wrong : NO_REGISTERS) {
            ResidueUnit unit = Check.with(1, 2);
            CHECK.refused("12: register " + wrong, unit, IndexOutOfBoundsException.class, () -> unit.sure(wrong));
            ResidueUnit second = Check.with(1, 2);
            CHECK.refused("13: register " + wrong, second, IndexOutOfBoundsException.class, () -> second.bound(wrong, 0));
            ResidueUnit third = Check.with(1, 2);
            CHECK.refused("13: register before end", third, IndexOutOfBoundsException.class, () -> third.bound(wrong, 2));
        }
        for (int end : new int[] {-1, 2, Integer.MAX_VALUE, Integer.MIN_VALUE}) {
            ResidueUnit unit = Check.with(H, H);
            CHECK.refused("13: end " + end, unit, IllegalArgumentException.class, () -> unit.bound(0, end));
            ResidueUnit second = Check.with(H, H);
            second.work(0, 0, 0, 1);
            CHECK.refused("13: end before sure", second, IllegalArgumentException.class, () -> second.bound(0, end));
        }
    }
}
