/** Promise 1: a new object. */
public final class NewObjectTest {
    private static final Check CHECK = new Check();

    public static void main(String[] args) {
        registersAreZeroAndSure();
        instructionsAreStop();
        counterIsZero();
        objectsAreApart();
        CHECK.finish();
    }

    /** "All registers 0, sure" */
    private static void registersAreZeroAndSure() {
        for (int r = 0; r < 16; r++) {
            ResidueUnit unit = new ResidueUnit();
            CHECK.putDue("1: register " + r, unit, r, 0);
            CHECK.due("1: fault of register " + r, unit.verify(r), 0);
        }
    }

    /** "all instructions STOP" */
    private static void instructionsAreStop() {
        ResidueUnit first = new ResidueUnit();
        CHECK.due("1: instruction 0", first.run(2000), 1);
        CHECK.due("1: instruction 0 is STOP", first.stopped(), 1);
        for (int i = 1; i < 32; i++) {
            ResidueUnit unit = new ResidueUnit();
            unit.instruct(0, 7, i, 0, 0);
            CHECK.due("1: instruction " + i, unit.run(2000), 2);
            CHECK.due("1: instruction " + i + " is STOP", unit.stopped(), 1);
        }
    }

    /** "the counter 0": one less is not 0, so that the run goes on. */
    private static void counterIsZero() {
        ResidueUnit unit = new ResidueUnit();
        unit.instruct(0, 10, 5, 0, 0);
        unit.instruct(5, 11, 3, 77, 0);
        CHECK.due("1: counter", unit.run(2000), 3);
        CHECK.due("1: counter, one less", unit.binary(3), 77L);
    }

    private static void objectsAreApart() {
        Check.busy();
        registersAreZeroAndSure();
        instructionsAreStop();
        CHECK.due("1: no run yet", new ResidueUnit().stopped(), 0);
    }
}
