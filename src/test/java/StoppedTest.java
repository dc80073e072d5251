/** Promise 16: stopped. */
public final class StoppedTest {
    private static final Check CHECK = new Check();

    public static void main(String[] args) {
        noRun();
        eachReason();
        latestRunCounts();
        lastFuel();
        refusedRunIsNone();
        otherCallsLeaveIt();
        CHECK.finish();
    }

    /** "0 there was none" */
    private static void noRun() {
        ResidueUnit unit = new ResidueUnit();
        CHECK.due("16: new", unit.stopped(), 0);
        unit.load(0, 5);
        unit.instruct(0, 11, 0, 1, 0);
        CHECK.due("16: other calls are no run", unit.stopped(), 0);
    }

    private static int after(int fuel, int[]... program) {
        ResidueUnit unit = new ResidueUnit();
        for (int[] now : program) {
            unit.instruct(now[0], now[1], now[2], 0, 0);
        }
        unit.run(fuel);
        return unit.stopped();
    }

    /** "1 STOP, 2 behind the last instruction, 3 no fuel" */
    private static void eachReason() {
        CHECK.due("16: STOP", after(2000), 1);
        CHECK.due("16: STOP at 31", after(2000, new int[] {0, 7, 31}), 1);
        CHECK.due("16: behind 31", after(2000, new int[] {0, 7, 31}, new int[] {31, 9, 5}), 2);
        CHECK.due("16: no fuel", after(2000, new int[] {0, 7, 0}), 3);
        CHECK.due("16: no fuel at all", after(0), 3);
    }

    /** "Why the latest run stopped" */
    private static void latestRunCounts() {
        ResidueUnit unit = new ResidueUnit();
        int[] fuels = {9, 0, 9, 0};
        int[] reasons = {1, 3, 1, 3};
        for (int n = 0; n < fuels.length; n++) {
            unit.run(fuels[n]);
            CHECK.due("16: run " + n, unit.stopped(), reasons[n]);
            CHECK.due("16: run " + n + ", asked again", unit.stopped(), reasons[n]);
        }
        unit.instruct(0, 7, 31, 0, 0);
        unit.instruct(31, 9, 5, 0, 0);
        unit.run(9);
        CHECK.due("16: then behind the last", unit.stopped(), 2);
        unit.run(1);
        CHECK.due("16: then no fuel", unit.stopped(), 3);
        unit.instruct(0, 0, 0, 0, 0);
        CHECK.due("16: a new instruction is no run", unit.stopped(), 3);
        unit.run(9);
        CHECK.due("16: then STOP", unit.stopped(), 1);
    }

    /** An end that the last fuel reaches counts before the end of the fuel. */
    private static void lastFuel() {
        CHECK.due("16: STOP with the last fuel", after(1), 1);
        CHECK.due("16: STOP at 31 with the last fuel", after(2, new int[] {0, 7, 31}), 1);
        CHECK.due("16: behind 31 with the last fuel", after(2, new int[] {0, 7, 31}, new int[] {31, 9, 5}), 2);
        CHECK.due("16: at 31 without fuel", after(1, new int[] {0, 7, 31}, new int[] {31, 9, 5}), 3);
    }

    /** "A call that throws changes nothing" */
    private static void refusedRunIsNone() {
        for (int fuel : new int[] {-1, 2001}) {
            ResidueUnit unit = new ResidueUnit();
            refused(unit, fuel);
            CHECK.due("16: no run but a refused one", unit.stopped(), 0);
            unit.run(1);
            refused(unit, fuel);
            CHECK.due("16: a refused run after STOP", unit.stopped(), 1);
        }
    }

    private static void refused(ResidueUnit unit, int fuel) {
        Class<?> thrown = null;
        try {
            unit.run(fuel);
        } catch (IllegalArgumentException e) {
            thrown = e.getClass();
        }
        CHECK.due("15: run with " + fuel + " throws", thrown, IllegalArgumentException.class);
    }

    private static void otherCallsLeaveIt() {
        ResidueUnit unit = Check.with(5, 7);
        unit.run(9);
        unit.load(0, 3);
        unit.work(0, 2, 0, 1);
        unit.scale(3, 0, 1, false);
        unit.divide(4, 5, 0, 1);
        unit.inject(4, 1, 1);
        unit.repair(4);
        unit.instruct(0, 7, 0, 0, 0);
        CHECK.due("16: other calls leave it", unit.stopped(), 1);
    }
}
