/** Promises 14 to 16: instruct, run, stopped. */
public final class ProgramTest {
    private static final long H = 87553987462305L;
    private static final int MANY = Integer.MAX_VALUE;
    private static final int FEW = Integer.MIN_VALUE;
    private static final Check CHECK = new Check();

    public static void main(String[] args) {
        instructTakesEdges();
        instructIgnoresWhatAKindHasNot();
        instructRefuses();
        calculations();
        scaling();
        copying();
        jumps();
        counting();
        counterBeginsAtZero();
        ends();
        fuel();
        stateStaysBetweenRuns();
        runRefuses();
        CHECK.finish();
    }

    private static void runDue(String what, ResidueUnit unit, int fuel, int done, int why) {
        CHECK.due("15: " + what + ", run", unit.run(fuel), done);
        CHECK.due("16: " + what + ", stopped", unit.stopped(), why);
    }

    private static void instructTakesEdges() {
        int[][] allowed = {
            {1, 0, 15, 0}, {1, 15, 0, 15}, {2, 15, 15, 15}, {3, 0, 0, 15}, {4, 15, 0, 0},
            {5, 15, 0, 1}, {5, 0, 15, 60}, {5, 0, 0, 32}, {6, 15, 0, 0}, {6, 0, 15, 0},
            {7, 31, 0, 0}, {7, 0, 0, 0}, {8, 15, 31, 0}, {8, 0, 0, 0}, {9, 0, 0, 0}, {9, 1000, 0, 0},
            {10, 31, 0, 0}, {10, 0, 0, 0}, {11, 15, 127, 0}, {11, 0, -128, 0}, {0, 0, 0, 0},
        };
        for (int[] now : allowed) {
            taken(0, now);
            taken(31, now);
        }
    }

    private static void instructIgnoresWhatAKindHasNot() {
        int[][] allowed = {
            {0, MANY, FEW, -1}, {6, 1, 2, -1}, {6, 1, 2, MANY}, {7, 3, -1, MANY}, {8, 3, 4, -1}, {8, 3, 4, MANY},
            {9, 1000, -1, MANY}, {10, 3, FEW, 99}, {11, 3, 4, -1}, {11, 3, 4, MANY},
        };
        for (int[] now : allowed) {
            taken(5, now);
        }
    }

    private static void taken(int i, int[] now) {
        ResidueUnit unit = new ResidueUnit();
        String thrown = "nothing";
        try {
            unit.instruct(i, now[0], now[1], now[2], now[3]);
        } catch (RuntimeException e) {
            thrown = e.toString();
        }
        CHECK.due("14: instruct kind " + now[0] + " with " + now[1] + ", " + now[2] + ", " + now[3] + " throws", thrown, "nothing");
    }

    private static void instructRefuses() {
        for (int kind : new int[] {-1, 12, MANY, FEW}) {
            refused(0, kind, 0, 0, 1);
        }
        for (int wrong : new int[] {-1, 16, MANY, FEW}) {
            for (int kind = 1; kind <= 4; kind++) {
                refused(0, kind, wrong, 0, 0);
                refused(0, kind, 0, wrong, 0);
                refused(0, kind, 0, 0, wrong);
            }
            refused(0, 5, wrong, 0, 1);
            refused(0, 5, 0, wrong, 1);
            refused(0, 6, wrong, 0, 0);
            refused(0, 6, 0, wrong, 0);
            refused(0, 8, wrong, 0, 0);
            refused(0, 11, wrong, 0, 0);
        }
        for (int wrong : new int[] {-1, 32, MANY, FEW}) {
            refused(0, 7, wrong, 0, 0);
            refused(0, 8, 0, wrong, 0);
            refused(0, 10, wrong, 0, 0);
            noSuchInstruction(wrong);
        }
        for (int wrong : new int[] {0, 31, 47, 62, 63, 64, 65, 128, -1, FEW, FEW + 1, MANY}) {
            refused(0, 5, 0, 0, wrong);
        }
        for (int wrong : new int[] {-1, 1001, MANY, FEW}) {
            refused(0, 9, wrong, 0, 0);
        }
        for (int wrong : new int[] {-129, 128, MANY, FEW}) {
            refused(0, 11, 0, wrong, 0);
        }
    }

    private static void refused(int i, int kind, int a, int b, int c) {
        ResidueUnit unit = Check.with(1, 2);
        unit.instruct(i, 11, 3, -77, 0);
        String what = "14: instruct kind " + kind + " with " + a + ", " + b + ", " + c;
        CHECK.refused(what, unit, IllegalArgumentException.class, () -> unit.instruct(i, kind, a, b, c));
        unit.run(1);
        CHECK.due(what + " leaves the old one", unit.binary(3), -77L);
    }

    private static void noSuchInstruction(int i) {
        ResidueUnit unit = Check.with(1, 2);
        CHECK.refused("14: instruct " + i, unit, IndexOutOfBoundsException.class, () -> unit.instruct(i, 0, 0, 0, 0));
        ResidueUnit second = Check.with(1, 2);
        CHECK.refused("14: instruct " + i + " and kind", second, IndexOutOfBoundsException.class, () -> second.instruct(i, 12, 0, 0, 0));
    }

    private static void calculations() {
        long[] want = {100 - 7, 100 + 7, -700, 5 - 700};
        int[] kinds = {1, 2, 3, 4};
        for (int n = 0; n < kinds.length; n++) {
            ResidueUnit unit = Check.with(5, 100, -7);
            unit.instruct(0, kinds[n], 0, 1, 2);
            runDue("kind " + kinds[n], unit, 2000, 2, 1);
            CHECK.due("15: kind " + kinds[n], unit.binary(0), want[n]);
            CHECK.due("15: kind " + kinds[n] + ", interval", unit.bound(0, 0), want[n]);
            CHECK.due("15: kind " + kinds[n] + " leaves b", unit.binary(1), 100L);
            CHECK.due("15: kind " + kinds[n] + " leaves c", unit.binary(2), -7L);
        }
        ResidueUnit unit = Check.with(H, 1);
        unit.instruct(0, 1, 2, 0, 1);
        unit.instruct(1, 11, 3, -128, 0);
        unit.instruct(2, 11, 4, 127, 0);
        runDue("out of range", unit, 4, 4, 1);
        CHECK.due("15: a sum out of range is not sure", unit.sure(2), false);
        CHECK.due("15: the least number that is put", unit.binary(3), -128L);
        CHECK.due("15: the greatest number that is put", unit.bound(4, 1), 127L);
    }

    private static void scaling() {
        ResidueUnit unit = Check.with(9, -252, H);
        unit.work(0, 3, 2, 2);
        unit.instruct(0, 5, 0, 1, 1);
        unit.instruct(1, 5, 3, 3, 15);
        runDue("scaling", unit, 2000, 3, 1);
        CHECK.due("15: scaling goes down", unit.binary(0), -2L);
        CHECK.due("15: scaling puts", unit.sure(3) && unit.bound(3, 0) == -1, true);
        CHECK.due("15: scaling leaves b", unit.binary(1), -252L);
    }

    private static void copying() {
        ResidueUnit unit = Check.with(9, -252, H);
        unit.inject(1, 8, 3);
        unit.work(0, 2, 2, 2);
        unit.instruct(0, 6, 0, 1, 0);
        unit.instruct(1, 6, 4, 2, 0);
        unit.instruct(2, 6, 2, 5, 0);
        runDue("copying", unit, 2000, 4, 1);
        for (int k = 1; k <= 8; k++) {
            CHECK.due("15: a copy's channel " + k, unit.channel(0, k), unit.channel(1, k));
        }
        CHECK.due("15: a copy's interval", unit.bound(0, 0), -252L);
        CHECK.due("15: a copy of what is not sure", unit.sure(4), false);
        CHECK.due("15: a copy of what is sure", unit.sure(2), true);
        CHECK.due("15: a copy's value", unit.compare(2, 5), 0);
        unit.inject(0, 1, 1);
        CHECK.due("15: a copy is apart", unit.channel(1, 1), 250);
    }

    private static void jumps() {
        for (long number : new long[] {-H, -1, 0, 1, H}) {
            ResidueUnit unit = Check.with(number);
            unit.instruct(0, 8, 0, 4, 0);
            unit.instruct(1, 11, 1, 1, 0);
            unit.instruct(2, 7, 5, 0, 0);
            unit.instruct(4, 11, 1, 2, 0);
            runDue("jump for " + number, unit, 2000, number < 0 ? 3 : 4, 1);
            CHECK.due("15: jump for " + number, unit.binary(1), number < 0 ? 2L : 1L);
        }
        ResidueUnit unit = Check.with(-1);
        unit.inject(0, 7, 1);
        unit.inject(0, 8, 1);
        unit.instruct(0, 8, 0, 4, 0);
        unit.instruct(4, 11, 1, 2, 0);
        runDue("a value below 0 whose witnesses are 0", unit, 2000, 3, 1);
    }

    private static void counting() {
        for (int times : new int[] {1, 2, 10, 500}) {
            ResidueUnit unit = Check.with(0, 1);
            unit.instruct(0, 9, times, 0, 0);
            unit.instruct(1, 1, 0, 0, 1);
            unit.instruct(2, 10, 1, 0, 0);
            unit.instruct(3, 11, 2, 5, 0);
            runDue(times + " times", unit, 2000, 2 * times + 3, 1);
            CHECK.due("15: " + times + " times", unit.binary(0), (long) times);
            CHECK.due("15: " + times + " times, then the next one", unit.binary(2), 5L);
        }
        ResidueUnit unit = Check.with(0, 1);
        unit.instruct(0, 9, 1000, 0, 0);
        unit.instruct(1, 10, 1, 0, 0);
        runDue("1000 times", unit, 2000, 1002, 1);
    }

    private static void counterBeginsAtZero() {
        ResidueUnit unit = new ResidueUnit();
        unit.instruct(0, 10, 0, 0, 0);
        runDue("a counter below 0 goes on", unit, 2000, 2000, 3);
        unit.instruct(0, 9, 1, 0, 0);
        runDue("the counter is set to 1", unit, 1, 1, 3);
        unit.instruct(0, 10, 31, 0, 0);
        unit.instruct(31, 6, 0, 0, 0);
        runDue("the counter is 0 first, not 1", unit, 2000, 2, 2);
    }

    private static void ends() {
        ResidueUnit unit = new ResidueUnit();
        runDue("STOP", unit, 2000, 1, 1);
        unit.instruct(0, 7, 31, 0, 0);
        runDue("STOP at the end", unit, 2000, 2, 1);
        unit.instruct(31, 11, 0, 5, 0);
        runDue("behind the last", unit, 2000, 2, 2);
        runDue("behind the last with the last fuel", unit, 2, 2, 2);
        runDue("before the last without fuel", unit, 1, 1, 3);
        unit.instruct(31, 9, 5, 0, 0);
        runDue("behind a set counter", unit, 2000, 2, 2);
        unit.instruct(31, 8, 0, 0, 0);
        runDue("behind a jump not taken", unit, 2000, 2, 2);
        unit.instruct(31, 7, 0, 0, 0);
        runDue("from the last to the first", unit, 2000, 2000, 3);
        ResidueUnit whole = new ResidueUnit();
        for (int i = 0; i < 32; i++) {
            whole.instruct(i, 11, i % 16, i, 0);
        }
        runDue("all instructions", whole, 2000, 32, 2);
        CHECK.due("15: the last was done", whole.binary(15), 31L);
    }

    private static void fuel() {
        ResidueUnit unit = new ResidueUnit();
        runDue("no fuel", unit, 0, 0, 3);
        runDue("fuel for STOP", unit, 1, 1, 1);
        unit.instruct(0, 11, 0, 5, 0);
        runDue("no fuel for a number", unit, 0, 0, 3);
        CHECK.due("15: without fuel nothing is done", unit.binary(0), 0L);
        runDue("fuel for a number", unit, 1, 1, 3);
        CHECK.due("15: with fuel it is done", unit.binary(0), 5L);
        runDue("fuel for a number and STOP", unit, 2, 2, 1);
    }

    private static void stateStaysBetweenRuns() {
        ResidueUnit unit = Check.with(0, 1);
        unit.instruct(0, 1, 0, 0, 1);
        runDue("first", unit, 9, 2, 1);
        runDue("second", unit, 9, 2, 1);
        CHECK.due("15: registers stay between runs", unit.binary(0), 2L);
        unit.load(1, 7);
        CHECK.due("16: other calls leave it", unit.stopped(), 1);
    }

    private static void runRefuses() {
        for (int fuel : new int[] {-1, 2001, MANY, FEW}) {
            ResidueUnit unit = Check.with(1, 2);
            unit.instruct(0, 1, 0, 0, 1);
            CHECK.refused("15: run with " + fuel, unit, IllegalArgumentException.class, () -> unit.run(fuel));
            CHECK.due("16: there was no run", unit.stopped(), 0);
        }
        ResidueUnit unit = Check.with(1, 2);
        unit.run(1);
        CHECK.refused("15: run after a run", unit, IllegalArgumentException.class, () -> unit.run(2001));
    }
}
