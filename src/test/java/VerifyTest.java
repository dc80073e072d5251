/** Promise 10: verify. */
public final class VerifyTest {
    private static final long M = Check.M;
    private static final long H = Check.H;
    private static final Check CHECK = new Check();

    public static void main(String[] args) {
        goodHasNone();
        everyFaultOfOneChannel();
        movedToAnotherNumber();
        twoFaults();
        twoFaultsThatLookLikeOne();
        numberBesideTheRange();
        changesNothing();
        noSuchRegister();
        CHECK.finish();
    }

    /** "A register's FAULT is 0 if it is good" */
    private static void goodHasNone() {
        long[] numbers = {0, 1, -1, H, -H, 1 - H, H - 1, 1000003};
        ResidueUnit unit = Check.with(numbers);
        for (int r = 0; r < numbers.length; r++) {
            CHECK.due("10: fault of " + numbers[r], unit.verify(r), 0);
        }
    }

    /** "otherwise the one channel 1 .. 8 of which another residue would make it good" */
    private static void everyFaultOfOneChannel() {
        for (long number : new long[] {0, -1, 1000003, H, -H}) {
            for (int k = 1; k <= 8; k++) {
                for (int e = 1; e <= Check.MODULI[k - 1]; e++) {
                    ResidueUnit unit = Check.with(number);
                    unit.inject(0, k, e);
                    int want = e < Check.MODULI[k - 1] ? k : 0;
                    CHECK.due("10: fault " + e + " in " + k + " of " + number, unit.verify(0), want);
                }
            }
        }
    }

    private static void movedToAnotherNumber() {
        ResidueUnit unit = Check.with(12);
        for (int k = 1; k <= 8; k++) {
            CHECK.due("10: the first " + (k - 1) + " channels moved", unit.verify(0), k == 1 ? 0 : k == 2 ? 1 : k == 8 ? 8 : 9);
            unit.inject(0, k, -5);
        }
        CHECK.due("10: all channels moved", unit.verify(0), 0);
    }

    /** "9 if there is none" */
    private static void twoFaults() {
        for (int i = 1; i <= 8; i++) {
            for (int j = i + 1; j <= 8; j++) {
                ResidueUnit unit = Check.with(-77);
                unit.inject(0, i, 1);
                unit.inject(0, j, 1);
                CHECK.due("10: faults in " + i + " and " + j, unit.verify(0), 9);
                unit.inject(0, i, -1);
                CHECK.due("10: the fault in " + j + " left", unit.verify(0), j);
            }
        }
    }

    /** A number that differs from 0 in channels i, j and a witness alone; with two of those at 0 the third is the fault. */
    private static void twoFaultsThatLookLikeOne() {
        for (int i = 1; i <= 6; i++) {
            for (int j = 1; j <= 6; j++) {
                if (i != j) {
                    threeAtZero(i, j, 7, 255);
                    threeAtZero(i, j, 8, 256);
                }
            }
        }
    }

    private static void threeAtZero(int i, int j, int witness, long factor) {
        ResidueUnit unit = Check.with(factor * (M / Check.MODULI[i - 1] / Check.MODULI[j - 1]));
        unit.inject(0, i, -unit.channel(0, i));
        unit.inject(0, witness, -unit.channel(0, witness));
        CHECK.due("10: " + i + " and " + witness + " lost, left " + j, unit.verify(0), j);
    }

    /** The first number out of range on each side, with any residue in any one channel. */
    private static void numberBesideTheRange() {
        for (int sign = -1; sign <= 1; sign += 2) {
            for (int k = 1; k <= 8; k++) {
                for (int e = 0; e < Check.MODULI[k - 1]; e++) {
                    besideTheRange(sign, k, e);
                }
            }
        }
    }

    /** It is -H or H in channels 1 to 6: if a witness says so too, the other one is the fault, else nothing helps. */
    private static void besideTheRange(int sign, int k, int e) {
        ResidueUnit unit = Check.with(sign * H, sign);
        unit.work(0, 2, 0, 1);
        int residue = unit.inject(2, k, e);
        boolean otherWitnessIsTheFault = k >= 7 && residue == Check.residue(-sign * H, k);
        CHECK.due("10: " + sign + " beyond the range, " + e + " in " + k, unit.verify(2), otherWitnessIsTheFault ? 15 - k : 9);
    }

    private static void changesNothing() {
        ResidueUnit unit = Check.with(1000);
        unit.inject(0, 4, 7);
        CHECK.due("10: verify", unit.verify(0), 4);
        CHECK.due("10: verify again", unit.verify(0), 4);
        CHECK.due("10: the residue stays", unit.channel(0, 4), (1000 + 7) % 233);
    }

    /** "IndexOutOfBoundsException if there is no such register" */
    private static void noSuchRegister() {
        CHECK.taken("10: register 0", unit -> unit.verify(0));
        CHECK.taken("10: register 15", unit -> unit.verify(15));
        for (int wrong : Check.NO_REGISTERS) {
            CHECK.refused("10: register " + wrong, IndexOutOfBoundsException.class, unit -> unit.verify(wrong));
        }
    }
}
