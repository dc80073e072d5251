/** Promise 4: work. */
public final class WorkTest {
    private static final long H = Check.H;
    private static final Check CHECK = new Check();

    public static void main(String[] args) {
        results();
        lastResultsInRange();
        wrapsInEachChannel();
        wrapsOutOfRange();
        faultsStayInTheirChannel();
        targetIsAnOperand();
        eachOp();
        firstAndLastRegister();
        noSuchRegister();
        anotherOp();
        registerBeforeOp();
        CHECK.finish();
    }

    private static void workDue(int op, long target, long a, long b, long want) {
        ResidueUnit unit = Check.with(target, a, b);
        unit.work(op, 0, 1, 2);
        String what = "4: work " + op + " of " + target + ", " + a + ", " + b;
        CHECK.putDue(what, unit, 0, want);
        CHECK.putDue(what + " leaves a", unit, 1, a);
        CHECK.putDue(what + " leaves b", unit, 2, b);
    }

    /** "ADD (op 0), SUBTRACT (1), MULTIPLY (2), MULTIPLY AND ADD (3) registers a and b into d" */
    private static void results() {
        workDue(0, 99, 5, 7, 12);
        workDue(0, 99, 5, -7, -2);
        workDue(1, 99, 5, 7, -2);
        workDue(1, 99, 7, 5, 2);
        workDue(2, 99, -1000003, 1000033, -1000003L * 1000033);
        workDue(2, 99, -3, -4, 12);
        workDue(3, 99, 5, 7, 134);
        workDue(3, -99, 5, -7, -134);
    }

    private static void lastResultsInRange() {
        workDue(0, 99, H - 1, 1, H);
        workDue(0, 99, 1 - H, -1, -H);
        workDue(0, 99, -H, H, 0);
        workDue(1, 99, H - 1, -1, H);
        workDue(1, 99, 1 - H, 1, -H);
        workDue(1, 99, -H, -H, 0);
        workDue(2, 99, H, -1, -H);
        workDue(2, 99, -H, -1, H);
        workDue(2, 99, H, 0, 0);
        workDue(3, H - 42, 6, 7, H);
        workDue(3, 42 - H, -6, 7, -H);
        workDue(3, -H, H, 2, H);
        workDue(3, H, -H, 2, -H);
    }

    /** "work in each channel by itself, in the residues": the greatest residues and 0 in all pairs. */
    private static void wrapsInEachChannel() {
        for (int k = 1; k <= 8; k++) {
            int last = Check.MODULI[k - 1] - 1;
            for (int target : new int[] {0, 1, last}) {
                for (int a : new int[] {0, 1, last}) {
                    for (int b : new int[] {0, 1, last}) {
                        channelDue(k, target, a, b);
                    }
                }
            }
        }
    }

    private static void channelDue(int k, int target, int a, int b) {
        int[] results = {a + b, a - b, a * b, target + a * b};
        for (int op = 0; op <= 3; op++) {
            ResidueUnit unit = new ResidueUnit();
            unit.inject(0, k, target);
            unit.inject(1, k, a);
            unit.inject(2, k, b);
            unit.work(op, 0, 1, 2);
            String what = "4: work " + op + " of residues " + target + ", " + a + ", " + b + " in channel ";
            for (int other = 1; other <= 8; other++) {
                int want = other == k ? Check.residue(results[op], k) : 0;
                CHECK.due(what + k + ", channel " + other, unit.channel(0, other), want);
            }
        }
    }

    private static void wrapsOutOfRange() {
        ResidueUnit unit = Check.with(H, 1, -H);
        unit.work(0, 3, 0, 1);
        unit.work(1, 4, 2, 1);
        unit.work(2, 5, 0, 0);
        for (int k = 1; k <= 8; k++) {
            CHECK.due("4: H + 1 in channel " + k, unit.channel(3, k), Check.residue(H + 1, k));
            CHECK.due("4: -H - 1 in channel " + k, unit.channel(4, k), Check.residue(-H - 1, k));
            int h = Check.residue(H, k);
            CHECK.due("4: H * H in channel " + k, unit.channel(5, k), Check.residue((long) h * h, k));
        }
        CHECK.due("4: H + 1 is -H in channels 1 to 6", unit.compare(3, 2), 0);
        CHECK.due("4: -H - 1 is H in channels 1 to 6", unit.compare(4, 0), 0);
    }

    private static void faultsStayInTheirChannel() {
        for (int op = 0; op <= 3; op++) {
            ResidueUnit unit = Check.with(3, 5, 7);
            unit.inject(1, 5, -40);
            unit.work(op, 0, 1, 2);
            CHECK.due("4: the fault after work " + op, unit.verify(0), 5);
        }
    }

    private static void targetIsAnOperand() {
        ResidueUnit unit = Check.with(7, -3);
        unit.work(0, 0, 0, 0);
        CHECK.putDue("4: add to itself", unit, 0, 14);
        unit.work(1, 0, 1, 0);
        CHECK.putDue("4: subtract the target", unit, 0, -17);
        unit.work(2, 0, 0, 0);
        CHECK.putDue("4: square in place", unit, 0, 289);
        unit.work(3, 0, 0, 0);
        CHECK.putDue("4: multiply and add in place", unit, 0, 289 + 289 * 289);
        unit.work(3, 0, 1, 0);
        CHECK.putDue("4: the target as b", unit, 0, -2 * (289 + 289 * 289));
        unit.work(1, 0, 0, 0);
        CHECK.putDue("4: less itself", unit, 0, 0);
    }

    private static void eachOp() {
        for (int op = 0; op <= 3; op++) {
            int allowed = op;
            CHECK.taken("4: op " + op, unit -> unit.work(allowed, 5, 1, 2));
        }
    }

    private static void firstAndLastRegister() {
        ResidueUnit unit = Check.with(4);
        unit.load(15, 9);
        unit.work(0, 15, 15, 0);
        CHECK.putDue("4: into 15", unit, 15, 13);
        unit.work(1, 0, 0, 15);
        CHECK.putDue("4: into 0", unit, 0, -9);
    }

    /** "IndexOutOfBoundsException if there is no such register" */
    private static void noSuchRegister() {
        for (int wrong : Check.NO_REGISTERS) {
            for (int each = 0; each <= 3; each++) {
                int op = each;
                String what = "4: work " + op + " with register " + wrong;
                CHECK.refused(what + " as d", IndexOutOfBoundsException.class, unit -> unit.work(op, wrong, 1, 2));
                CHECK.refused(what + " as a", IndexOutOfBoundsException.class, unit -> unit.work(op, 5, wrong, 2));
                CHECK.refused(what + " as b", IndexOutOfBoundsException.class, unit -> unit.work(op, 5, 1, wrong));
            }
        }
    }

    /** "IllegalArgumentException for another op" */
    private static void anotherOp() {
        for (int op : new int[] {-1, 4, 5, -4, 256, 65536, Check.MANY, Check.FEW}) {
            CHECK.refused("4: op " + op, IllegalArgumentException.class, unit -> unit.work(op, 5, 1, 2));
        }
    }

    /** "of two exceptions the one that it names first is thrown" */
    private static void registerBeforeOp() {
        for (int op : new int[] {-1, 4}) {
            for (int wrong : new int[] {-1, 16}) {
                String what = "4: op " + op + " and register " + wrong;
                CHECK.refused(what + " as d", IndexOutOfBoundsException.class, unit -> unit.work(op, wrong, 1, 2));
                CHECK.refused(what + " as a", IndexOutOfBoundsException.class, unit -> unit.work(op, 5, wrong, 2));
                CHECK.refused(what + " as b", IndexOutOfBoundsException.class, unit -> unit.work(op, 5, 1, wrong));
            }
        }
    }
}
