/** Promise 2: load. */
public final class LoadTest {
    private static final long M = Check.M;
    private static final long H = Check.H;
    private static final Check CHECK = new Check();

    public static void main(String[] args) {
        rangeIsAsWritten();
        numbersArePut();
        edgesOfEachModulus();
        eachRegister();
        overWhatWasThere();
        noSuchRegister();
        lastInRange();
        notInRange();
        registerBeforeRange();
        CHECK.finish();
    }

    /** "M is the product of the first six, H is (M - 1) / 2" */
    private static void rangeIsAsWritten() {
        CHECK.due("M", M, 175107974924611L);
        CHECK.due("H", H, 87553987462305L);
    }

    private static void loadDue(int r, long number) {
        ResidueUnit unit = new ResidueUnit();
        unit.load(r, number);
        CHECK.putDue("2: load " + number + " into " + r, unit, r, number);
    }

    /** "A number is PUT into a register by all eight of its residues." */
    private static void numbersArePut() {
        for (long number : new long[] {0, 1, -1, 65280, -65280, 1234567890123L, -1234567890123L}) {
            loadDue(6, number);
        }
    }

    /** "a residue for every channel (0 .. modulus - 1)": the last one and the wrap, on both sides of 0. */
    private static void edgesOfEachModulus() {
        for (int modulus : Check.MODULI) {
            for (int off = -1; off <= 1; off++) {
                loadDue(6, modulus + off);
                loadDue(6, -modulus + off);
            }
        }
    }

    /** "There are 16 REGISTERS" */
    private static void eachRegister() {
        ResidueUnit unit = new ResidueUnit();
        for (int r = 0; r < 16; r++) {
            unit.load(r, 1000 + r);
        }
        for (int r = 0; r < 16; r++) {
            CHECK.putDue("2: register " + r, unit, r, 1000 + r);
        }
    }

    /** "A number that is put has just itself, and is sure" */
    private static void overWhatWasThere() {
        for (int r : new int[] {Check.UNSURE, Check.ONE_FAULT, Check.TWO_FAULTS}) {
            ResidueUnit unit = Check.busy();
            unit.load(r, -4711);
            CHECK.putDue("2: load over register " + r, unit, r, -4711);
        }
    }

    /** "IndexOutOfBoundsException if there is no such register" */
    private static void noSuchRegister() {
        CHECK.taken("2: load into 0", unit -> unit.load(0, 1));
        CHECK.taken("2: load into 15", unit -> unit.load(15, 1));
        for (int r : Check.NO_REGISTERS) {
            CHECK.refused("2: load into " + r, IndexOutOfBoundsException.class, unit -> unit.load(r, 1));
        }
    }

    /** "a number -H .. H is IN RANGE" */
    private static void lastInRange() {
        loadDue(0, H);
        loadDue(15, -H);
        loadDue(0, H - 1);
        loadDue(15, 1 - H);
    }

    /** "IllegalArgumentException if it isn't in range" */
    private static void notInRange() {
        long[] numbers = {H + 1, -H - 1, H + 2, -H - 2, M, -M, M + 1, 2 * M, 1L << 48, -(1L << 48),
            Long.MAX_VALUE, Long.MIN_VALUE, Long.MIN_VALUE + 1};
        for (long number : numbers) {
            CHECK.refused("2: load of " + number, IllegalArgumentException.class, unit -> unit.load(3, number));
        }
    }

    /** "of two exceptions the one that it names first is thrown" */
    private static void registerBeforeRange() {
        for (int r : Check.NO_REGISTERS) {
            CHECK.refused("2: load of too much into " + r, IndexOutOfBoundsException.class, unit -> unit.load(r, H + 1));
            CHECK.refused("2: load of too little into " + r, IndexOutOfBoundsException.class, unit -> unit.load(r, -H - 1));
        }
    }
}
