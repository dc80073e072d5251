/** Promise 14: instruct. */
public final class InstructTest {
    private static final int MANY = Check.MANY;
    private static final int FEW = Check.FEW;
    private static final int[] NO_INSTRUCTIONS = {-1, 32, 33, -32, 256, 65536, MANY, FEW};
    private static final Check CHECK = new Check();

    public static void main(String[] args) {
        becomesAnother();
        oneInstructionAlone();
        noSuchInstruction();
        noSuchKind();
        registersOfEachKind();
        instructionsOfEachKind();
        moduliOfScaling();
        counters();
        numbersThatArePut();
        partsThatAKindHasNot();
        instructionBeforeItsParts();
        CHECK.finish();
    }

    private static String named(int kind, int a, int b, int c) {
        return "14: kind " + kind + " with " + a + ", " + b + ", " + c;
    }

    private static void taken(int kind, int a, int b, int c) {
        CHECK.taken(named(kind, a, b, c), unit -> unit.instruct(3, kind, a, b, c));
    }

    private static void refused(int kind, int a, int b, int c) {
        CHECK.refused(named(kind, a, b, c), IllegalArgumentException.class, unit -> unit.instruct(3, kind, a, b, c));
    }

    /** "Instruction i becomes another one." */
    private static void becomesAnother() {
        ResidueUnit unit = new ResidueUnit();
        unit.instruct(0, 11, 2, 5, 0);
        unit.run(1);
        CHECK.putDue("14: a number", unit, 2, 5);
        unit.instruct(0, 11, 3, -6, 0);
        unit.run(1);
        CHECK.putDue("14: another number", unit, 3, -6);
        CHECK.putDue("14: the earlier one is gone", unit, 2, 5);
        unit.instruct(0, 0, 0, 0, 0);
        CHECK.due("14: STOP again", unit.run(9), 1);
        CHECK.due("14: STOP again, stopped", unit.stopped(), 1);
    }

    private static void oneInstructionAlone() {
        for (int i = 0; i < 32; i++) {
            ResidueUnit unit = new ResidueUnit();
            for (int other = 0; other < 32; other++) {
                unit.instruct(other, 9, 0, 0, 0);
            }
            unit.instruct(i, 0, 0, 0, 0);
            CHECK.due("14: STOP at " + i + " alone", unit.run(2000), i + 1);
            CHECK.due("14: STOP at " + i + ", stopped", unit.stopped(), 1);
        }
        ResidueUnit unit = Check.with(7, 8);
        unit.instruct(0, 11, 0, 1, 0);
        CHECK.putDue("14: nothing is done before a run", unit, 0, 7);
        CHECK.due("14: no run was there", unit.stopped(), 0);
    }

    /** "IndexOutOfBoundsException if there is no such instruction" */
    private static void noSuchInstruction() {
        CHECK.taken("14: instruction 0", unit -> unit.instruct(0, 0, 0, 0, 0));
        CHECK.taken("14: instruction 31", unit -> unit.instruct(31, 0, 0, 0, 0));
        for (int i : NO_INSTRUCTIONS) {
            CHECK.refused("14: instruction " + i, IndexOutOfBoundsException.class, unit -> unit.instruct(i, 0, 0, 0, 0));
        }
    }

    /** "IllegalArgumentException if kind is not 0 .. 11" */
    private static void noSuchKind() {
        for (int kind = 0; kind <= 11; kind++) {
            taken(kind, 1, 1, 1);
        }
        for (int kind : new int[] {-1, 12, 13, -11, 256, 65536, MANY, FEW}) {
            refused(kind, 1, 1, 1);
        }
    }

    /** "a register ... that it has are not as they must be" */
    private static void registersOfEachKind() {
        for (int r : new int[] {0, 15}) {
            for (int kind = 1; kind <= 4; kind++) {
                taken(kind, r, r, r);
            }
            taken(5, r, r, 1);
            taken(6, r, r, 0);
            taken(8, r, 1, 0);
            taken(11, r, 1, 0);
        }
        for (int wrong : Check.NO_REGISTERS) {
            for (int kind = 1; kind <= 4; kind++) {
                refused(kind, wrong, 1, 2);
                refused(kind, 1, wrong, 2);
                refused(kind, 1, 2, wrong);
            }
            refused(5, wrong, 1, 1);
            refused(5, 1, wrong, 1);
            refused(6, wrong, 1, 0);
            refused(6, 1, wrong, 0);
            refused(8, wrong, 1, 0);
            refused(11, wrong, 1, 0);
        }
    }

    /** "instruction ... that it has are not as they must be" */
    private static void instructionsOfEachKind() {
        for (int i : new int[] {0, 15, 16, 31}) {
            taken(7, i, 0, 0);
            taken(8, 1, i, 0);
            taken(10, i, 0, 0);
        }
        for (int wrong : NO_INSTRUCTIONS) {
            refused(7, wrong, 0, 0);
            refused(8, 1, wrong, 0);
            refused(10, wrong, 0, 0);
        }
    }

    /** "or moduli that it has are not as they must be": one to four of the first six, as for scale. */
    private static void moduliOfScaling() {
        for (int moduli = -70; moduli <= 260; moduli++) {
            moduliDue(moduli);
        }
        for (int bit = 6; bit < 32; bit++) {
            moduliDue(1 << bit);
            moduliDue(1 << bit | 3);
        }
        moduliDue(MANY);
    }

    private static void moduliDue(int moduli) {
        if (moduli > 0 && moduli < 64 && Integer.bitCount(moduli) <= 4) {
            taken(5, 1, 2, moduli);
        } else {
            refused(5, 1, 2, moduli);
        }
    }

    /** "a counter is not 0 .. 1000" */
    private static void counters() {
        for (int counter : new int[] {0, 1, 16, 32, 999, 1000}) {
            taken(9, counter, 0, 0);
        }
        for (int counter : new int[] {-1, 1001, 1024, -1000, 65536, MANY, FEW}) {
            refused(9, counter, 0, 0);
        }
    }

    /** "or a number that is put is not -128 .. 127" */
    private static void numbersThatArePut() {
        for (int number : new int[] {-128, -127, -1, 0, 1, 126, 127}) {
            taken(11, 1, number, 0);
            ResidueUnit unit = new ResidueUnit();
            unit.instruct(0, 11, 15, number, 0);
            unit.run(1);
            CHECK.putDue("14: the number " + number, unit, 15, number);
        }
        for (int number : new int[] {-129, 128, -130, 129, 255, 256, -256, 65536, MANY, FEW}) {
            refused(11, 1, number, 0);
        }
    }

    /** Only what a kind has must be as it must be. */
    private static void partsThatAKindHasNot() {
        for (int any : new int[] {-1, 16, 32, 1001, MANY, FEW}) {
            taken(0, any, any, any);
            taken(6, 1, 2, any);
            taken(7, 1, any, any);
            taken(8, 1, 2, any);
            taken(9, 1, any, any);
            taken(10, 1, any, any);
            taken(11, 1, 2, any);
        }
    }

    /** "of two exceptions the one that it names first is thrown" */
    private static void instructionBeforeItsParts() {
        int[][] wrong = {{-1, 0, 0, 0}, {12, 0, 0, 0}, {1, 16, 0, 0}, {4, 0, 0, -1}, {5, 0, 0, 0}, {5, 0, 0, 64},
            {7, 32, 0, 0}, {8, 0, -1, 0}, {9, 1001, 0, 0}, {10, -1, 0, 0}, {11, 0, 128, 0}, {11, 0, -129, 0}};
        for (int i : new int[] {-1, 32}) {
            for (int[] now : wrong) {
                CHECK.refused(named(now[0], now[1], now[2], now[3]) + " at " + i, IndexOutOfBoundsException.class,
                    unit -> unit.instruct(i, now[0], now[1], now[2], now[3]));
            }
        }
    }
}
