/** Promise 5: compare. */
public final class CompareTest {
    private static final long H = Check.H;
    private static final Check CHECK = new Check();

    public static void main(String[] args) {
        eachPair();
        withItself();
        witnessesDoNotCount();
        beyondTheRange();
        changesNothing();
        noSuchRegister();
        CHECK.finish();
    }

    /** "-1, 0, 1 as the value of a is below, like, above that of b" */
    private static void eachPair() {
        long[] numbers = {-H, 1 - H, -257, -2, -1, 0, 1, 2, 256, H - 1, H};
        ResidueUnit unit = Check.with(numbers);
        for (int a = 0; a < numbers.length; a++) {
            for (int b = 0; b < numbers.length; b++) {
                CHECK.due("5: compare " + numbers[a] + ", " + numbers[b], unit.compare(a, b), Integer.compare(a, b));
            }
        }
    }

    private static void withItself() {
        ResidueUnit unit = Check.busy();
        for (int r = 0; r < 16; r++) {
            CHECK.due("5: register " + r + " with itself", unit.compare(r, r), 0);
        }
    }

    /** The value is told by channels 1 to 6 alone. */
    private static void witnessesDoNotCount() {
        ResidueUnit unit = Check.with(5, 5, 6, 4);
        unit.inject(0, 7, 100);
        unit.inject(0, 8, 100);
        CHECK.due("5: like, witnesses off", unit.compare(0, 1), 0);
        CHECK.due("5: below, witnesses off", unit.compare(0, 2), -1);
        CHECK.due("5: above, witnesses off", unit.compare(0, 3), 1);
        for (int k = 1; k <= 6; k++) {
            ResidueUnit other = Check.with(5, 5);
            other.inject(0, k, 1);
            CHECK.due("5: not like, channel " + k + " off", other.compare(0, 1) != 0, true);
        }
    }

    /** "the number in range that has its residues": H + 1 is -H there, and -H - 1 is H. */
    private static void beyondTheRange() {
        ResidueUnit unit = Check.with(H, 1, -H, 1 - H, H - 1);
        unit.work(0, 5, 0, 1);
        unit.work(1, 6, 2, 1);
        CHECK.due("5: H + 1 is below H", unit.compare(5, 0), -1);
        CHECK.due("5: H + 1 is like -H", unit.compare(5, 2), 0);
        CHECK.due("5: H + 1 is below 1 - H", unit.compare(5, 3), -1);
        CHECK.due("5: -H - 1 is above -H", unit.compare(6, 2), 1);
        CHECK.due("5: -H - 1 is like H", unit.compare(6, 0), 0);
        CHECK.due("5: -H - 1 is above H - 1", unit.compare(6, 4), 1);
    }

    private static void changesNothing() {
        ResidueUnit unit = Check.with(8, -9);
        unit.compare(0, 1);
        CHECK.putDue("5: a stays", unit, 0, 8);
        CHECK.putDue("5: b stays", unit, 1, -9);
    }

    /** "IndexOutOfBoundsException if there is no such register" */
    private static void noSuchRegister() {
        CHECK.taken("5: compare 0, 15", unit -> unit.compare(0, 15));
        CHECK.taken("5: compare 15, 0", unit -> unit.compare(15, 0));
        for (int wrong : Check.NO_REGISTERS) {
            CHECK.refused("5: compare a " + wrong, IndexOutOfBoundsException.class, unit -> unit.compare(wrong, 0));
            CHECK.refused("5: compare b " + wrong, IndexOutOfBoundsException.class, unit -> unit.compare(0, wrong));
            CHECK.refused("5: compare both " + wrong, IndexOutOfBoundsException.class, unit -> unit.compare(wrong, wrong));
        }
    }
}
