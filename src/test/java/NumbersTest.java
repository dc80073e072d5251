/** Promises 1 to 3: a new object, load, binary. */
public final class NumbersTest {
    private static final long H = 87553987462305L;
    private static final long[] MODULI = {251, 241, 239, 233, 229, 227, 256, 255};
    private static final Check CHECK = new Check();

    public static void main(String[] args) {
        newObject();
        loadAndBinary();
        loadRefuses();
        binaryRefuses();
        CHECK.finish();
    }

    private static void newObject() {
        ResidueUnit unit = new ResidueUnit();
        CHECK.due("1: new, stopped", unit.stopped(), 0);
        for (int r = 0; r < 16; r++) {
            CHECK.due("1: new, binary " + r, unit.binary(r), 0L);
            CHECK.due("1: new, verify " + r, unit.verify(r), 0);
            CHECK.due("1: new, sure " + r, unit.sure(r), true);
            CHECK.due("1: new, least " + r, unit.bound(r, 0), 0L);
            CHECK.due("1: new, greatest " + r, unit.bound(r, 1), 0L);
            for (int k = 1; k <= 8; k++) {
                CHECK.due("1: new, channel " + r + " " + k, unit.channel(r, k), 0);
            }
        }
        everyInstructionIsStop();
    }

    private static void everyInstructionIsStop() {
        for (int i = 0; i < 32; i++) {
            ResidueUnit unit = new ResidueUnit();
            if (i > 0) {
                unit.instruct(0, 7, i, 0, 0);
            }
            CHECK.due("1: new, run to " + i, unit.run(9), i > 0 ? 2 : 1);
            CHECK.due("1: new, stopped at " + i, unit.stopped(), 1);
        }
    }

    private static void loadAndBinary() {
        long[] numbers = {0, 1, -1, 127, 255, 256, -256, 65280, -65280, 1234567890123L, -1234567890123L, H - 1, 1 - H, H, -H};
        ResidueUnit unit = new ResidueUnit();
        for (int n = 0; n < numbers.length; n++) {
            long number = numbers[n];
            int r = n % 2 == 0 ? 0 : 15;
            unit.load(r, number);
            CHECK.due("3: binary of " + number, unit.binary(r), number);
            for (int k = 1; k <= 8; k++) {
                int residue = (int) Math.floorMod(number, MODULI[k - 1]);
                CHECK.due("2: channel " + k + " of " + number, unit.channel(r, k), residue);
            }
            CHECK.due("2: sure of " + number, unit.sure(r), true);
            CHECK.due("2: least of " + number, unit.bound(r, 0), number);
            CHECK.due("2: greatest of " + number, unit.bound(r, 1), number);
        }
        CHECK.due("2: a neighbour stays", unit.binary(1), 0L);
    }

    private static void loadRefuses() {
        for (long number : new long[] {H + 1, -H - 1, Long.MAX_VALUE, Long.MIN_VALUE}) {
            ResidueUnit unit = loaded();
            CHECK.refused("2: load of " + number, unit, IllegalArgumentException.class, () -> unit.load(3, number));
        }
        for (int r : new int[] {-1, 16, Integer.MAX_VALUE, Integer.MIN_VALUE}) {
            ResidueUnit unit = loaded();
            CHECK.refused("2: load into " + r, unit, IndexOutOfBoundsException.class, () -> unit.load(r, 1));
        }
        ResidueUnit unit = loaded();
        CHECK.refused("2: load, both wrong", unit, IndexOutOfBoundsException.class, () -> unit.load(16, H + 1));
    }

    private static void binaryRefuses() {
        for (int r : new int[] {-1, 16, Integer.MAX_VALUE, Integer.MIN_VALUE}) {
            ResidueUnit unit = loaded();
            CHECK.refused("3: binary of " + r, unit, IndexOutOfBoundsException.class, () -> unit.binary(r));
        }
        for (int k = 1; k <= 8; k++) {
            ResidueUnit unit = loaded();
            unit.inject(3, k, 1);
            CHECK.refused("3: binary, fault in " + k, unit, IllegalStateException.class, () -> unit.binary(3));
            CHECK.due("3: another register is still good", unit.binary(4), -5L);
        }
    }

    private static ResidueUnit loaded() {
        ResidueUnit unit = new ResidueUnit();
        unit.load(3, 987654321);
        unit.load(4, -5);
        return unit;
    }
}
