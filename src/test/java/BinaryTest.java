/** Promise 3: binary. */
public final class BinaryTest {
    private static final long H = Check.H;
    private static final Check CHECK = new Check();

    public static void main(String[] args) {
        valuesToTheEdges();
        noSuchRegister();
        notGoodInOneChannel();
        notGoodBeyondRange();
        goodThoughNotSure();
        goodAgain();
        changesNothing();
        CHECK.finish();
    }

    /** "The VALUE of a register is the number in range that has its residues in channels 1 to 6." */
    private static void valuesToTheEdges() {
        long[] numbers = {-H, 1 - H, -1, 0, 1, H - 1, H};
        ResidueUnit unit = Check.with(numbers);
        for (int r = 0; r < numbers.length; r++) {
            CHECK.due("3: binary of " + numbers[r], unit.binary(r), numbers[r]);
        }
    }

    /** "IndexOutOfBoundsException if there is no such register" */
    private static void noSuchRegister() {
        CHECK.taken("3: binary of 0", unit -> unit.binary(0));
        CHECK.taken("3: binary of 15", unit -> unit.binary(15));
        for (int r : Check.NO_REGISTERS) {
            CHECK.refused("3: binary of " + r, IndexOutOfBoundsException.class, unit -> unit.binary(r));
        }
    }

    /** "It is GOOD if that number has its residues in channels 7 and 8, too." */
    private static void notGoodInOneChannel() {
        for (int channel = 1; channel <= 8; channel++) {
            int k = channel;
            for (int e : new int[] {1, -1, 100}) {
                CHECK.refused("3: binary, " + e + " more in " + k, IllegalStateException.class, unit -> {
                    unit.inject(5, k, e);
                    try {
                        unit.binary(5);
                    } finally {
                        unit.inject(5, k, -e);
                    }
                });
            }
        }
        CHECK.refused("3: binary of one fault", IllegalStateException.class, unit -> unit.binary(Check.ONE_FAULT));
        CHECK.refused("3: binary of two faults", IllegalStateException.class, unit -> unit.binary(Check.TWO_FAULTS));
    }

    /** A sum that left the range is another number in channels 1 to 6 than in 7 and 8. */
    private static void notGoodBeyondRange() {
        CHECK.refused("3: binary of H + 1", IllegalStateException.class, unit -> unit.binary(Check.UNSURE));
        ResidueUnit unit = Check.with(-H, -1);
        unit.work(0, 2, 0, 1);
        Class<?> thrown = null;
        try {
            unit.binary(2);
        } catch (IllegalStateException e) {
            thrown = e.getClass();
        }
        CHECK.due("3: binary of -H - 1", thrown, IllegalStateException.class);
    }

    private static void goodThoughNotSure() {
        ResidueUnit unit = Check.with(H, 1);
        unit.work(0, 2, 0, 1);
        unit.work(1, 2, 2, 1);
        CHECK.due("3: H + 1 - 1 is not sure", unit.sure(2), false);
        CHECK.due("3: H + 1 - 1 is good", unit.binary(2), H);
    }

    private static void goodAgain() {
        ResidueUnit unit = Check.with(77);
        unit.inject(0, 8, 254);
        unit.inject(0, 8, 1);
        CHECK.due("3: a whole modulus more", unit.binary(0), 77L);
        unit.inject(0, 3, 5);
        unit.repair(0);
        CHECK.due("3: repaired", unit.binary(0), 77L);
    }

    private static void changesNothing() {
        ResidueUnit unit = Check.with(-9);
        unit.binary(0);
        CHECK.putDue("3: after binary", unit, 0, -9);
    }
}
