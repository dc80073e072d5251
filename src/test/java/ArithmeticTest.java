/** Promises 4 to 7: work, compare, scale, divide. */
public final class ArithmeticTest {
    private static final long M = 175107974924611L;
    private static final long H = (M - 1) / 2;
    private static final int[] MODULI = {251, 241, 239, 233, 229, 227, 256, 255};
    private static final int[] NO_REGISTERS = {-1, 16, Integer.MAX_VALUE, Integer.MIN_VALUE};
    private static final Check CHECK = new Check();

    public static void main(String[] args) {
        workOnNumbers();
        workOnItself();
        workInEachChannel();
        workRefuses();
        compareValues();
        compareRefuses();
        scaleValues();
        scaleByEachChoice();
        scaleLeavesTheSource();
        scaleRefuses();
        divideValues();
        divideSharedRegisters();
        divideRefuses();
        CHECK.finish();
    }

    private static void workDue(int op, long target, long a, long b, long want) {
        ResidueUnit unit = Check.with(target, a, b);
        unit.work(op, 0, 1, 2);
        String what = "4: work " + op + " of " + target + ", " + a + ", " + b;
        CHECK.due(what, unit.binary(0), want);
        CHECK.due(what + " leaves a", unit.binary(1), a);
        CHECK.due(what + " leaves b", unit.binary(2), b);
    }

    private static void workOnNumbers() {
        workDue(0, 99, 5, 7, 12);
        workDue(0, 99, H - 1, 1, H);
        workDue(0, 99, -H, H, 0);
        workDue(1, 99, 5, 7, -2);
        workDue(1, 99, 7, 5, 2);
        workDue(1, 99, -H, -H, 0);
        workDue(2, 99, -1000003, 1000033, -1000003L * 1000033);
        workDue(2, 99, H, -1, -H);
        workDue(2, 99, H, 0, 0);
        workDue(3, 99, 5, 7, 134);
        workDue(3, -99, 5, -7, -134);
        workDue(3, -H, H, 2, H);
    }

    private static void workOnItself() {
        ResidueUnit unit = Check.with(7, -3);
        unit.work(0, 0, 0, 0);
        CHECK.due("4: add to itself", unit.binary(0), 14L);
        unit.work(1, 0, 1, 0);
        CHECK.due("4: subtract from the target", unit.binary(0), -17L);
        unit.work(2, 0, 0, 0);
        CHECK.due("4: square in place", unit.binary(0), 289L);
        unit.work(3, 0, 0, 0);
        CHECK.due("4: multiply and add in place", unit.binary(0), 289L + 289 * 289);
        CHECK.due("4: its interval", unit.bound(0, 0), 289L + 289 * 289);
    }

    private static void workInEachChannel() {
        for (int op = 0; op <= 3; op++) {
            ResidueUnit unit = Check.with(H, -H + 1, H - 2);
            unit.inject(0, 2, 17);
            unit.inject(1, 5, -40);
            unit.inject(2, 7, 200);
            int[] want = new int[8];
            for (int k = 1; k <= 8; k++) {
                int target = unit.channel(0, k);
                int a = unit.channel(1, k);
                int b = unit.channel(2, k);
                int result = op == 0 ? a + b : op == 1 ? a - b : op == 2 ? a * b : target + a * b;
                want[k - 1] = Math.floorMod(result, MODULI[k - 1]);
            }
            unit.work(op, 0, 1, 2);
            for (int k = 1; k <= 8; k++) {
                CHECK.due("4: work " + op + " in channel " + k, unit.channel(0, k), want[k - 1]);
            }
        }
    }

    private static void workRefuses() {
        for (int wrong : NO_REGISTERS) {
            ResidueUnit unit = Check.with(1, 2, 3);
            CHECK.refused("4: work into " + wrong, unit, IndexOutOfBoundsException.class, () -> unit.work(0, wrong, 1, 2));
            ResidueUnit second = Check.with(1, 2, 3);
            CHECK.refused("4: work on a " + wrong, second, IndexOutOfBoundsException.class, () -> second.work(1, 0, wrong, 2));
            ResidueUnit third = Check.with(1, 2, 3);
            CHECK.refused("4: work on b " + wrong, third, IndexOutOfBoundsException.class, () -> third.work(2, 0, 1, wrong));
        }
        for (int op : new int[] {-1, 4, Integer.MAX_VALUE, Integer.MIN_VALUE}) {
            ResidueUnit unit = Check.with(1, 2, 3);
            CHECK.refused("4: op " + op, unit, IllegalArgumentException.class, () -> unit.work(op, 0, 1, 2));
            ResidueUnit second = Check.with(1, 2, 3);
            CHECK.refused("4: op and register", second, IndexOutOfBoundsException.class, () -> second.work(op, 0, 1, 16));
        }
    }

    private static void compareValues() {
        long[] numbers = {-H, -H + 1, -257, -1, 0, 1, 256, H - 1, H};
        ResidueUnit unit = Check.with(numbers);
        for (int a = 0; a < numbers.length; a++) {
            for (int b = 0; b < numbers.length; b++) {
                CHECK.due("5: compare " + numbers[a] + ", " + numbers[b], unit.compare(a, b), Integer.compare(a, b));
            }
        }
        CHECK.due("5: compare with the last register", unit.compare(0, 15), -1);
        comparesNoWitness();
    }

    /** Channels 7 and 8 have no part in the value. */
    private static void comparesNoWitness() {
        ResidueUnit unit = Check.with(5, 5, 6);
        unit.inject(0, 7, 100);
        unit.inject(0, 8, 100);
        CHECK.due("5: compare, witnesses off", unit.compare(0, 1), 0);
        unit.work(0, 3, 2, 0);
        CHECK.due("5: compare with the sum", unit.compare(3, 2), 1);
    }

    private static void compareRefuses() {
        for (int wrong : NO_REGISTERS) {
            ResidueUnit unit = Check.with(1, 2, 3);
            CHECK.refused("5: compare a " + wrong, unit, IndexOutOfBoundsException.class, () -> unit.compare(wrong, 0));
            ResidueUnit second = Check.with(1, 2, 3);
            CHECK.refused("5: compare b " + wrong, second, IndexOutOfBoundsException.class, () -> second.compare(0, wrong));
        }
    }

    private static void scaleDue(long number, int moduli, boolean nearest, long want) {
        ResidueUnit unit = Check.with(77, number);
        unit.scale(0, 1, moduli, nearest);
        String what = "6: scale of " + number + " by " + moduli + (nearest ? ", nearest" : ", down");
        CHECK.due(what, unit.binary(0), want);
        CHECK.due(what + ", sure", unit.sure(0), true);
        CHECK.due(what + ", least", unit.bound(0, 0), want);
        CHECK.due(what + ", greatest", unit.bound(0, 1), want);
    }

    private static void scaleValues() {
        scaleDue(0, 1, false, 0);
        scaleDue(250, 1, false, 0);
        scaleDue(251, 1, false, 1);
        scaleDue(-1, 1, false, -1);
        scaleDue(-251, 1, false, -1);
        scaleDue(-252, 1, false, -2);
        scaleDue(125, 1, true, 0);
        scaleDue(126, 1, true, 1);
        scaleDue(-125, 1, true, 0);
        scaleDue(-126, 1, true, -1);
        scaleDue(-251, 1, true, -1);
        scaleDue(H, 15, false, 25991);
        scaleDue(-H, 15, false, -25992);
        scaleDue(H, 15, true, 25991);
        scaleDue(-H, 15, true, -25991);
        scaleDue(H, 32, false, 385700385296L);
        scaleDue(-H, 32, false, -385700385297L);
    }

    private static void scaleByEachChoice() {
        for (int moduli = 1; moduli < 64; moduli++) {
            if (Integer.bitCount(moduli) > 4) {
                continue;
            }
            long product = 1;
            for (int k = 0; k < 6; k++) {
                product *= (moduli & 1 << k) != 0 ? MODULI[k] : 1;
            }
            scaleDue(3 * product, moduli, false, 3);
            scaleDue(3 * product - 1, moduli, false, 2);
            scaleDue(-3 * product - 1, moduli, false, -4);
            scaleDue(3 * product + product / 2, moduli, true, 3);
            scaleDue(3 * product + product / 2 + 1, moduli, true, 4);
            scaleDue(-3 * product - product / 2, moduli, true, -3);
            scaleDue(-3 * product - product / 2 - 1, moduli, true, -4);
        }
    }

    private static void scaleLeavesTheSource() {
        ResidueUnit unit = Check.with(77, 10000);
        unit.scale(0, 1, 1, false);
        CHECK.due("6: the source stays", unit.binary(1), 10000L);
        unit.scale(1, 1, 1, false);
        CHECK.due("6: scale in place", unit.binary(1), 39L);
        scaleOfFaultyAndUnsure();
    }

    private static void scaleOfFaultyAndUnsure() {
        ResidueUnit unit = Check.with(77, 10000, H);
        unit.inject(1, 8, 3);
        unit.scale(0, 1, 1, false);
        CHECK.due("6: what is scaled is the value", unit.binary(0), 39L);
        unit.work(0, 3, 2, 2);
        CHECK.due("6: H + H is not sure", unit.sure(3), false);
        unit.scale(3, 3, 1, false);
        CHECK.due("6: H + H wraps to -1", unit.binary(3), -1L);
        CHECK.due("6: what is put is sure", unit.sure(3), true);
        CHECK.due("6: what is put is its interval", unit.bound(3, 1), -1L);
    }

    private static void scaleRefuses() {
        for (int wrong : NO_REGISTERS) {
            ResidueUnit unit = Check.with(1, 2, 3);
            CHECK.refused("6: scale into " + wrong, unit, IndexOutOfBoundsException.class, () -> unit.scale(wrong, 0, 1, false));
            ResidueUnit second = Check.with(1, 2, 3);
            CHECK.refused("6: scale of " + wrong, second, IndexOutOfBoundsException.class, () -> second.scale(0, wrong, 0, true));
        }
        for (int moduli : new int[] {0, 31, 47, 62, 63, 64, 65, 128, 256, -1, -63, Integer.MIN_VALUE, Integer.MIN_VALUE + 1}) {
            ResidueUnit unit = Check.with(1, 2, 3);
            CHECK.refused("6: moduli " + moduli, unit, IllegalArgumentException.class, () -> unit.scale(0, 1, moduli, false));
        }
    }

    private static void divideDue(long a, long b) {
        ResidueUnit unit = Check.with(77, 77, a, b);
        unit.divide(0, 1, 2, 3);
        String what = "7: divide " + a + " by " + b;
        CHECK.due(what + ", quotient", unit.binary(0), a / b);
        CHECK.due(what + ", remainder", unit.binary(1), a % b);
        CHECK.due(what + ", the quotient is sure", unit.sure(0) && unit.bound(0, 0) == a / b, true);
        CHECK.due(what + ", the remainder is sure", unit.sure(1) && unit.bound(1, 1) == a % b, true);
        CHECK.due(what + " leaves a", unit.binary(2), a);
        CHECK.due(what + " leaves b", unit.binary(3), b);
    }

    private static void divideValues() {
        long[] numbers = {-H, -1000000, -8, -7, -1, 1, 2, 7, 999983, H};
        for (long a : numbers) {
            for (long b : numbers) {
                divideDue(a, b);
            }
            divideDue(0, a);
        }
    }

    private static void divideSharedRegisters() {
        ResidueUnit unit = Check.with(-100, 7);
        unit.divide(0, 1, 0, 1);
        CHECK.due("7: quotient over the dividend", unit.binary(0), -14L);
        CHECK.due("7: remainder over the divisor", unit.binary(1), -2L);
        unit = Check.with(-100, 7);
        unit.divide(1, 0, 0, 1);
        CHECK.due("7: quotient over the divisor", unit.binary(1), -14L);
        CHECK.due("7: remainder over the dividend", unit.binary(0), -2L);
        unit = Check.with(-100, 7);
        unit.divide(2, 2, 0, 1);
        CHECK.due("7: the remainder goes last", unit.binary(2), -2L);
        unit = Check.with(-100, 7);
        unit.inject(1, 7, 9);
        unit.divide(2, 3, 0, 1);
        CHECK.due("7: what divides is the value", unit.binary(2), -14L);
    }

    private static void divideRefuses() {
        for (int wrong : NO_REGISTERS) {
            ResidueUnit unit = Check.with(1, 2, 3);
            CHECK.refused("7: q " + wrong, unit, IndexOutOfBoundsException.class, () -> unit.divide(wrong, 1, 1, 2));
            ResidueUnit second = Check.with(1, 2, 3);
            CHECK.refused("7: r " + wrong, second, IndexOutOfBoundsException.class, () -> second.divide(0, wrong, 1, 9));
            ResidueUnit third = Check.with(1, 2, 3);
            CHECK.refused("7: a " + wrong, third, IndexOutOfBoundsException.class, () -> third.divide(0, 1, wrong, 9));
            ResidueUnit fourth = Check.with(1, 2, 3);
            CHECK.refused("7: b " + wrong, fourth, IndexOutOfBoundsException.class, () -> fourth.divide(0, 1, 1, wrong));
        }
        ResidueUnit unit = Check.with(1, 2, 0);
        CHECK.refused("7: by 0", unit, ArithmeticException.class, () -> unit.divide(0, 1, 1, 2));
        ResidueUnit faulty = Check.with(1, 2, 0);
        faulty.inject(2, 7, 9);
        CHECK.refused("7: by the value 0", faulty, ArithmeticException.class, () -> faulty.divide(0, 1, 1, 2));
        ResidueUnit other = Check.with(1, 2, 0);
        other.inject(2, 6, 9);
        other.divide(0, 1, 1, 2);
        CHECK.due("7: by a residue that is not 0", other.binary(0), 0L);
    }
}
