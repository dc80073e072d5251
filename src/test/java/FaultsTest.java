/** Promises 8 to 11: channel, inject, verify, repair. */
public final class FaultsTest {
    private static final long H = 87553987462305L;
    private static final int[] MODULI = {251, 241, 239, 233, 229, 227, 256, 255};
    private static final int[] NO_REGISTERS = {-1, 16, Integer.MAX_VALUE, Integer.MIN_VALUE};
    private static final int[] NO_CHANNELS = {-1, 0, 9, Integer.MAX_VALUE, Integer.MIN_VALUE};
    private static final Check CHECK = new Check();

    public static void main(String[] args) {
        channelRefuses();
        injectShifts();
        injectRefuses();
        everyFaultOfOneChannel();
        severalFaults();
        twoFaultsThatLookLikeOne();
        goodAfterManyFaults();
        verifyRefuses();
        repairRefuses();
        CHECK.finish();
    }

    private static ResidueUnit with(long number) {
        ResidueUnit unit = new ResidueUnit();
        unit.load(2, number);
        return unit;
    }

    private static void channelRefuses() {
        ResidueUnit unit = with(1000);
        for (int k = 1; k <= 8; k++) {
            CHECK.due("8: channel " + k, unit.channel(2, k), 1000 % MODULI[k - 1]);
        }
        for (int wrong : NO_REGISTERS) {
            ResidueUnit other = with(1000);
            CHECK.refused("8: register " + wrong, other, IndexOutOfBoundsException.class, () -> other.channel(wrong, 1));
        }
        for (int wrong : NO_CHANNELS) {
            ResidueUnit other = with(1000);
            CHECK.refused("8: channel " + wrong, other, IndexOutOfBoundsException.class, () -> other.channel(2, wrong));
        }
    }

    private static void injectShifts() {
        int[] shifts = {0, 1, -1, 250, 255, 256, -256, 1000, -1000, Integer.MAX_VALUE, Integer.MIN_VALUE};
        for (int k = 1; k <= 8; k++) {
            ResidueUnit unit = with(-1);
            long residue = MODULI[k - 1] - 1;
            for (int e : shifts) {
                residue = Math.floorMod(residue + e, (long) MODULI[k - 1]);
                CHECK.due("9: inject " + e + " in " + k, unit.inject(2, k, e), (int) residue);
                CHECK.due("9: channel " + k + " then", unit.channel(2, k), (int) residue);
            }
            for (int other = 1; other <= 8; other++) {
                if (other != k) {
                    CHECK.due("9: channel " + other + " stays", unit.channel(2, other), MODULI[other - 1] - 1);
                }
            }
            CHECK.due("9: still sure", unit.sure(2), true);
            CHECK.due("9: the interval stays", unit.bound(2, 0), -1L);
            CHECK.due("9: another register stays", unit.binary(3), 0L);
        }
    }

    private static void injectRefuses() {
        for (int wrong : NO_REGISTERS) {
            ResidueUnit unit = with(1000);
            CHECK.refused("9: register " + wrong, unit, IndexOutOfBoundsException.class, () -> unit.inject(wrong, 1, 1));
        }
        for (int wrong : NO_CHANNELS) {
            ResidueUnit unit = with(1000);
            CHECK.refused("9: channel " + wrong, unit, IndexOutOfBoundsException.class, () -> unit.inject(2, wrong, 1));
        }
    }

    /** Two witnesses are enough to tell any one fault from all others, so that the number comes back. */
    private static void everyFaultOfOneChannel() {
        for (long number : new long[] {0, -1, 1000003, H, -H}) {
            for (int k = 1; k <= 8; k++) {
                for (int e = 1; e < MODULI[k - 1]; e++) {
                    oneFault(number, k, e);
                }
            }
        }
    }

    private static void oneFault(long number, int k, int e) {
        ResidueUnit unit = with(number);
        unit.inject(2, k, e);
        String what = "fault " + e + " in " + k + " of " + number;
        CHECK.due("10: " + what, unit.verify(2), k);
        CHECK.due("11: " + what, unit.repair(2), k);
        CHECK.due("11: " + what + ", after", unit.verify(2), 0);
        CHECK.due("11: " + what + ", again", unit.repair(2), 0);
        CHECK.due("11: " + what + ", number", unit.binary(2), number);
        CHECK.due("11: " + what + ", the interval", unit.bound(2, 0), number);
    }

    private static void severalFaults() {
        ResidueUnit unit = with(-385700385297L);
        unit.inject(2, 1, 5);
        unit.inject(2, 2, 9);
        CHECK.due("10: two faults", unit.verify(2), 9);
        CHECK.refused("11: two faults", unit, IllegalStateException.class, () -> unit.repair(2));
        ResidueUnit wrapped = with(H);
        wrapped.load(3, 1);
        wrapped.work(0, 2, 2, 3);
        CHECK.due("10: a sum out of range", wrapped.verify(2), 9);
        CHECK.refused("11: a sum out of range", wrapped, IllegalStateException.class, () -> wrapped.repair(2));
    }

    /** A number that differs from 0 in channels i, j and 7 alone; with two of those at 0 the third is the fault. */
    private static void twoFaultsThatLookLikeOne() {
        for (int i = 1; i <= 6; i++) {
            for (int j = 1; j <= 6; j++) {
                if (i == j) {
                    continue;
                }
                long number = 255 * (175107974924611L / MODULI[i - 1] / MODULI[j - 1]);
                ResidueUnit unit = with(number);
                unit.inject(2, i, -unit.channel(2, i));
                unit.inject(2, 7, -unit.channel(2, 7));
                CHECK.due("10: two faults of three, left " + j, unit.verify(2), j);
                CHECK.due("11: two faults of three, left " + j, unit.repair(2), j);
                CHECK.due("11: it is 0 now", unit.binary(2), 0L);
                CHECK.due("13: the interval is of what was put", unit.bound(2, 0), number);
            }
        }
    }

    private static void goodAfterManyFaults() {
        ResidueUnit unit = with(12);
        for (int k = 1; k <= 8; k++) {
            unit.inject(2, k, -5);
        }
        CHECK.due("10: every channel moved to another number", unit.verify(2), 0);
        CHECK.due("11: nothing to repair", unit.repair(2), 0);
        CHECK.due("11: nothing was repaired", unit.binary(2), 7L);
        CHECK.due("12: the interval is of what was put", unit.bound(2, 1), 12L);
    }

    private static void verifyRefuses() {
        for (int wrong : NO_REGISTERS) {
            ResidueUnit unit = with(1000);
            CHECK.refused("10: register " + wrong, unit, IndexOutOfBoundsException.class, () -> unit.verify(wrong));
        }
        ResidueUnit faulty = with(1000);
        faulty.inject(2, 4, 7);
        CHECK.due("10: verify", faulty.verify(2), 4);
        CHECK.due("10: verify repairs nothing", faulty.verify(2), 4);
    }

    private static void repairRefuses() {
        for (int wrong : NO_REGISTERS) {
            ResidueUnit unit = with(1000);
            CHECK.refused("11: register " + wrong, unit, IndexOutOfBoundsException.class, () -> unit.repair(wrong));
        }
    }
}
