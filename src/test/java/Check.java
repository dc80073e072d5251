import java.util.Objects;
import java.util.function.Consumer;

/** Counts and prints the answers that are not as due, and holds what the tests share. */
final class Check {
    static final int[] MODULI = {251, 241, 239, 233, 229, 227, 256, 255};
    static final long M = 251L * 241 * 239 * 233 * 229 * 227;
    static final long H = (M - 1) / 2;
    static final int MANY = Integer.MAX_VALUE;
    static final int FEW = Integer.MIN_VALUE;
    static final int[] NO_REGISTERS = {-1, 16, 17, -16, 256, 65536, MANY, FEW};
    static final int[] NO_CHANNELS = {0, 9, -1, 16, 256, 65537, MANY, FEW};

    /** What the registers of a busy object hold. */
    static final int ZERO = 0;
    static final int ONE = 1;
    static final int GREATEST = 3;
    static final int LEAST = 4;
    static final int UNSURE = 8;
    static final int ONE_FAULT = 9;
    static final int TWO_FAULTS = 10;

    private int asDue = 0;
    private int wrong = 0;

    /** A new object with the numbers in its first registers. */
    static ResidueUnit with(long... numbers) {
        ResidueUnit unit = new ResidueUnit();
        for (int r = 0; r < numbers.length; r++) {
            unit.load(r, numbers[r]);
        }
        return unit;
    }

    /**
     * An object with something of every sort in it: numbers, faults, what isn't sure, a run without fuel, and a
     * program each instruction of which leaves its mark in registers 12 to 15.
     */
    static ResidueUnit busy() {
        ResidueUnit unit = with(0, 1, -1, H, -H, 1000003, -77, 250, 0, 12345, -385700385297L, -5, 12, 13, 14, 15);
        unit.work(0, UNSURE, GREATEST, ONE);
        unit.inject(ONE_FAULT, 4, 17);
        unit.inject(TWO_FAULTS, 1, 5);
        unit.inject(TWO_FAULTS, 2, 9);
        int[] kinds = {1, 2, 4};
        for (int i = 0; i < 32; i++) {
            int target = 12 + i % 4;
            int kind = kinds[i % kinds.length];
            unit.instruct(i, kind, target, kind == 4 ? 1 + 3 * i % 11 : target, 1 + i % 11);
        }
        unit.run(3);
        return unit;
    }

    static int residue(long number, int channel) {
        return (int) Math.floorMod(number, (long) MODULI[channel - 1]);
    }

    void due(String what, Object got, Object want) {
        if (Objects.equals(got, want)) {
            asDue++;
            return;
        }
        wrong++;
        System.out.println(what + " answered " + got + ", due is " + want);
    }

    /** The register holds the number as one that was put: by all eight residues, sure, with itself as interval. */
    void putDue(String what, ResidueUnit unit, int r, long number) {
        for (int k = 1; k <= 8; k++) {
            due(what + ", channel " + k, unit.channel(r, k), residue(number, k));
        }
        due(what + ", binary", unit.binary(r), number);
        due(what + ", sure", unit.sure(r), true);
        due(what + ", least", unit.bound(r, 0), number);
        due(what + ", greatest", unit.bound(r, 1), number);
    }

    /** The call must be taken by a busy object. */
    void taken(String what, Consumer<ResidueUnit> call) {
        due(what + " throws", thrownBy(busy(), call), null);
    }

    /** The call must throw just this class and leave a busy object as it was, its program too. */
    void refused(String what, Class<? extends RuntimeException> want, Consumer<ResidueUnit> call) {
        ResidueUnit unit = busy();
        due(what + " throws", thrownBy(unit, call), want);
        same(what, unit, busy());
    }

    private static Class<?> thrownBy(ResidueUnit unit, Consumer<ResidueUnit> call) {
        try {
            call.accept(unit);
        } catch (RuntimeException e) {
            return e.getClass();
        }
        return null;
    }

    private void same(String what, ResidueUnit unit, ResidueUnit twin) {
        due(what + " leaves the registers", shownBy(unit), shownBy(twin));
        due(what + " leaves the program", unit.run(2000), twin.run(2000));
        due(what + " leaves each instruction", shownBy(unit), shownBy(twin));
    }

    private static String shownBy(ResidueUnit unit) {
        StringBuilder text = new StringBuilder();
        for (int r = 0; r < 16; r++) {
            for (int k = 1; k <= 8; k++) {
                text.append(unit.channel(r, k)).append(' ');
            }
            text.append(unit.sure(r) ? unit.bound(r, 0) + ".." + unit.bound(r, 1) : "unsure").append('\n');
        }
        return text.append(unit.stopped()).toString();
    }

    void finish() {
        System.out.println(asDue + " passed, " + wrong + " failed");
        if (wrong != 0) {
            System.exit(1);
        }
    }
}
