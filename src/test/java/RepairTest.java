/** Promise 11: repair. */
public final class RepairTest {
    private static final long H = Check.H;
    private static final Check CHECK = new Check();

    public static void main(String[] args) {
        everyFaultOfOneChannel();
        toTheNearestGoodNumber();
        nothingToRepair();
        intervalStays();
        firstAndLastRegister();
        noSuchRegister();
        beyondRepair();
        CHECK.finish();
    }

    /** "The channel that is the fault gets the residue with which the register is good: the fault." */
    private static void everyFaultOfOneChannel() {
        for (long number : new long[] {0, -1, 1000003, H, -H}) {
            for (int k = 1; k <= 8; k++) {
                for (int e = 1; e < Check.MODULI[k - 1]; e++) {
                    oneFault(number, k, e);
                }
            }
        }
    }

    private static void oneFault(long number, int k, int e) {
        ResidueUnit unit = Check.with(number, number);
        unit.inject(1, k, e);
        String what = "11: fault " + e + " in " + k + " of " + number;
        CHECK.due(what, unit.repair(1), k);
        CHECK.putDue(what + ", repaired", unit, 1, number);
        CHECK.due(what + ", again", unit.repair(1), 0);
        CHECK.putDue(what + ", the register before", unit, 0, number);
    }

    /** It is what the register is now that counts, not what was put. */
    private static void toTheNearestGoodNumber() {
        ResidueUnit unit = Check.with(12);
        for (int k = 1; k <= 7; k++) {
            unit.inject(0, k, -5);
        }
        CHECK.due("11: seven channels moved", unit.repair(0), 8);
        CHECK.due("11: the other number", unit.binary(0), 7L);
        CHECK.due("13: the interval is of what was put", unit.bound(0, 0), 12L);
    }

    private static void nothingToRepair() {
        for (long number : new long[] {0, H, -H, -5}) {
            ResidueUnit unit = Check.with(number);
            CHECK.due("11: nothing to repair in " + number, unit.repair(0), 0);
            CHECK.putDue("11: " + number + " stays", unit, 0, number);
        }
    }

    /** "A residue that is injected or repaired changes neither." */
    private static void intervalStays() {
        ResidueUnit unit = Check.with(H, 1, 6);
        unit.inject(2, 3, 100);
        unit.repair(2);
        CHECK.putDue("11: still sure", unit, 2, 6);
        unit.work(0, 3, 0, 1);
        unit.work(1, 3, 3, 1);
        unit.inject(3, 3, 100);
        CHECK.due("11: what is not sure", unit.repair(3), 3);
        CHECK.due("11: is good", unit.binary(3), H);
        CHECK.due("11: and still not sure", unit.sure(3), false);
    }

    private static void firstAndLastRegister() {
        ResidueUnit unit = new ResidueUnit();
        unit.inject(0, 1, 1);
        unit.inject(15, 8, 1);
        CHECK.due("11: register 0", unit.repair(0), 1);
        CHECK.due("11: register 15", unit.repair(15), 8);
        CHECK.putDue("11: register 0", unit, 0, 0);
        CHECK.putDue("11: register 15", unit, 15, 0);
    }

    /** "IndexOutOfBoundsException if there is no such register" */
    private static void noSuchRegister() {
        for (int wrong : Check.NO_REGISTERS) {
            CHECK.refused("11: register " + wrong, IndexOutOfBoundsException.class, unit -> unit.repair(wrong));
        }
    }

    /** "IllegalStateException if the fault is 9" */
    private static void beyondRepair() {
        CHECK.refused("11: two faults", IllegalStateException.class, unit -> unit.repair(Check.TWO_FAULTS));
        CHECK.refused("11: a number out of range", IllegalStateException.class, unit -> unit.repair(Check.UNSURE));
        CHECK.taken("11: one fault", unit -> unit.repair(Check.ONE_FAULT));
        CHECK.taken("11: no fault", unit -> unit.repair(Check.LEAST));
    }
}
