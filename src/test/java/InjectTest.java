/** Promise 9: inject. */
public final class InjectTest {
    private static final Check CHECK = new Check();

    public static void main(String[] args) {
        wrapsUpAndDown();
        anyShift();
        oneResidueAlone();
        intervalStays();
        firstAndLastRegister();
        noSuchRegister();
        noSuchChannel();
        CHECK.finish();
    }

    private static void injectDue(ResidueUnit unit, int k, int e, int want) {
        CHECK.due("9: inject " + e + " in " + k, unit.inject(2, k, e), want);
        CHECK.due("9: channel " + k + " after " + e, unit.channel(2, k), want);
    }

    /** "A residue gets e more, mod its modulus": past the last residue and below 0. */
    private static void wrapsUpAndDown() {
        for (int k = 1; k <= 8; k++) {
            int modulus = Check.MODULI[k - 1];
            ResidueUnit unit = new ResidueUnit();
            injectDue(unit, k, modulus - 1, modulus - 1);
            injectDue(unit, k, 1, 0);
            injectDue(unit, k, -1, modulus - 1);
            injectDue(unit, k, 0, modulus - 1);
            injectDue(unit, k, modulus, modulus - 1);
            injectDue(unit, k, -modulus, modulus - 1);
            injectDue(unit, k, modulus + 1, 0);
            injectDue(unit, k, 0, 0);
            injectDue(unit, k, modulus, 0);
            injectDue(unit, k, -modulus, 0);
            injectDue(unit, k, -modulus - 1, modulus - 1);
            injectDue(unit, k, 1 - modulus, 0);
        }
    }

    /** "(e may be below 0)" */
    private static void anyShift() {
        int[] shifts = {1000, -1000, 65536, -65536, Check.MANY, Check.MANY, Check.FEW, Check.FEW, Check.FEW + 1};
        for (int k = 1; k <= 8; k++) {
            for (int first : new int[] {0, 1, Check.MODULI[k - 1] - 1}) {
                ResidueUnit unit = new ResidueUnit();
                unit.inject(2, k, first);
                long sum = first;
                for (int e : shifts) {
                    sum += e;
                    injectDue(unit, k, e, Check.residue(sum, k));
                }
            }
        }
    }

    private static void oneResidueAlone() {
        for (int k = 1; k <= 8; k++) {
            ResidueUnit unit = Check.with(-1, -1, -1, -1);
            unit.inject(2, k, -5);
            for (int other = 1; other <= 8; other++) {
                int off = other == k ? -5 : 0;
                CHECK.due("9: inject in " + k + ", channel " + other, unit.channel(2, other), Check.residue(-1 + off, other));
            }
            CHECK.putDue("9: the register before", unit, 1, -1);
            CHECK.putDue("9: the register behind", unit, 3, -1);
        }
    }

    /** "A residue that is injected or repaired changes neither." */
    private static void intervalStays() {
        ResidueUnit unit = Check.with(Check.H, 1, -5);
        unit.inject(2, 3, 1);
        CHECK.due("9: still sure", unit.sure(2), true);
        CHECK.due("9: least", unit.bound(2, 0), -5L);
        CHECK.due("9: greatest", unit.bound(2, 1), -5L);
        unit.work(0, 0, 0, 1);
        unit.inject(0, 7, -1);
        CHECK.due("9: still not sure", unit.sure(0), false);
    }

    private static void firstAndLastRegister() {
        ResidueUnit unit = new ResidueUnit();
        CHECK.due("9: register 0", unit.inject(0, 1, 3), 3);
        CHECK.due("9: register 15", unit.inject(15, 8, 4), 4);
        CHECK.due("9: in register 0", unit.channel(0, 1), 3);
        CHECK.due("9: in register 15", unit.channel(15, 8), 4);
    }

    /** "IndexOutOfBoundsException if there is no such register" */
    private static void noSuchRegister() {
        for (int wrong : Check.NO_REGISTERS) {
            CHECK.refused("9: register " + wrong, IndexOutOfBoundsException.class, unit -> unit.inject(wrong, 1, 1));
        }
    }

    /** "or channel" */
    private static void noSuchChannel() {
        for (int wrong : Check.NO_CHANNELS) {
            CHECK.refused("9: channel " + wrong, IndexOutOfBoundsException.class, unit -> unit.inject(5, wrong, 1));
            CHECK.refused("9: both " + wrong, IndexOutOfBoundsException.class, unit -> unit.inject(16, wrong, 1));
        }
    }
}
