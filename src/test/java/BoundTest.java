/** Promise 13: bound. */
public final class BoundTest {
    private static final long H = Check.H;
    private static final Check CHECK = new Check();

    public static void main(String[] args) {
        bothEndsOfANumber();
        bothEndsOfResults();
        targetsOwnInterval();
        intervalsOutliveFaults();
        noSuchRegister();
        anotherEnd();
        notSure();
        registerBeforeEnd();
        endBeforeSure();
        CHECK.finish();
    }

    private static void boundsDue(String what, ResidueUnit unit, int r, long want) {
        CHECK.due("13: " + what + ", least", unit.bound(r, 0), want);
        CHECK.due("13: " + what + ", greatest", unit.bound(r, 1), want);
    }

    /** "A number that is put has just itself" */
    private static void bothEndsOfANumber() {
        for (long number : new long[] {0, 1, -1, H, -H, 123456789}) {
            boundsDue("of " + number, Check.with(number), 0, number);
        }
        ResidueUnit unit = new ResidueUnit();
        boundsDue("of register 15", unit, 15, 0);
        unit.load(15, -8);
        boundsDue("of register 15", unit, 15, -8);
    }

    private static void resultDue(int op, long target, long a, long b, long want) {
        ResidueUnit unit = Check.with(target, a, b);
        unit.work(op, 0, 1, 2);
        boundsDue("work " + op + " of " + target + ", " + a + ", " + b, unit, 0, want);
        boundsDue("a stays", unit, 1, a);
        boundsDue("b stays", unit, 2, b);
    }

    /** "the least interval that has all results of numbers of the operands' intervals" */
    private static void bothEndsOfResults() {
        resultDue(0, 99, H - 1, 1, H);
        resultDue(0, 99, 1 - H, -1, -H);
        resultDue(1, 99, 1, 1 - H, H);
        resultDue(1, 99, -1, H - 1, -H);
        resultDue(2, 99, 9356987, 9357070, 9356987L * 9357070);
        resultDue(2, 99, -9356987, 9357070, -9356987L * 9357070);
        resultDue(2, 99, -H, -1, H);
        resultDue(2, 99, -H, 0, 0);
        resultDue(3, 5, 6, 7, 47);
        resultDue(3, -H, 2, H, H);
        resultDue(3, H, -2, H, -H);
    }

    private static void targetsOwnInterval() {
        ResidueUnit unit = Check.with(7);
        unit.work(3, 0, 0, 0);
        boundsDue("7 + 7 * 7", unit, 0, 56);
        unit.work(1, 0, 0, 0);
        boundsDue("less itself", unit, 0, 0);
    }

    /** "A residue that is injected or repaired changes neither." */
    private static void intervalsOutliveFaults() {
        ResidueUnit unit = Check.with(6, 7);
        unit.inject(0, 3, 100);
        boundsDue("of a fault", unit, 0, 6);
        unit.work(2, 2, 0, 1);
        boundsDue("product of a fault", unit, 2, 42);
        unit.repair(2);
        boundsDue("product, repaired", unit, 2, 42);
        CHECK.due("3: product, repaired", unit.binary(2), 42L);
    }

    /** "IndexOutOfBoundsException if there is no such register" */
    private static void noSuchRegister() {
        for (int wrong : Check.NO_REGISTERS) {
            CHECK.refused("13: register " + wrong + ", least", IndexOutOfBoundsException.class, unit -> unit.bound(wrong, 0));
            CHECK.refused("13: register " + wrong + ", greatest", IndexOutOfBoundsException.class, unit -> unit.bound(wrong, 1));
        }
    }

    /** "IllegalArgumentException for another end" */
    private static void anotherEnd() {
        for (int end : new int[] {-1, 2, 3, -2, 256, 65537, Check.MANY, Check.FEW}) {
            CHECK.refused("13: end " + end, IllegalArgumentException.class, unit -> unit.bound(5, end));
        }
    }

    /** "IllegalStateException if it isn't sure" */
    private static void notSure() {
        CHECK.refused("13: not sure, least", IllegalStateException.class, unit -> unit.bound(Check.UNSURE, 0));
        CHECK.refused("13: not sure, greatest", IllegalStateException.class, unit -> unit.bound(Check.UNSURE, 1));
        CHECK.taken("13: sure, with a fault", unit -> unit.bound(Check.ONE_FAULT, 0));
        CHECK.taken("13: sure, beyond repair", unit -> unit.bound(Check.TWO_FAULTS, 1));
    }

    /** "of two exceptions the one that it names first is thrown" */
    private static void registerBeforeEnd() {
        for (int wrong : Check.NO_REGISTERS) {
            CHECK.refused("13: end 2 of " + wrong, IndexOutOfBoundsException.class, unit -> unit.bound(wrong, 2));
            CHECK.refused("13: end -1 of " + wrong, IndexOutOfBoundsException.class, unit -> unit.bound(wrong, -1));
        }
    }

    /** "of two exceptions the one that it names first is thrown" */
    private static void endBeforeSure() {
        CHECK.refused("13: end 2, not sure", IllegalArgumentException.class, unit -> unit.bound(Check.UNSURE, 2));
        CHECK.refused("13: end -1, not sure", IllegalArgumentException.class, unit -> unit.bound(Check.UNSURE, -1));
    }
}
