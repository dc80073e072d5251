/** Promise 15: run. */
public final class RunTest {
    private static final long H = Check.H;
    private static final Check CHECK = new Check();

    public static void main(String[] args) {
        calculations();
        calculationsOutOfRange();
        scalingDown();
        copies();
        goes();
        goesIfBelowZero();
        counts();
        countsPastZero();
        counterIsZeroFirst();
        numbersArePut();
        beginsWithInstructionZero();
        stopsAtStop();
        stopsBehindTheLast();
        jumpsFromTheLast();
        stopsWithoutFuel();
        noSuchFuel();
        registersStayBetweenRuns();
        CHECK.finish();
    }

    private static void runDue(String what, ResidueUnit unit, int fuel, int done, int why) {
        CHECK.due("15: " + what + ", run", unit.run(fuel), done);
        CHECK.due("16: " + what + ", stopped", unit.stopped(), why);
    }

    /** "1 ADD, 2 SUBTRACT, 3 MULTIPLY registers b and c into a; 4 MULTIPLY AND ADD b, c to a" */
    private static void calculations() {
        long[] want = {100 - 7, 100 + 7, -700, 5 - 700};
        for (int kind = 1; kind <= 4; kind++) {
            ResidueUnit unit = Check.with(5, 100, -7);
            unit.instruct(0, kind, 0, 1, 2);
            runDue("kind " + kind, unit, 2000, 2, 1);
            CHECK.putDue("15: kind " + kind, unit, 0, want[kind - 1]);
            CHECK.putDue("15: kind " + kind + " leaves b", unit, 1, 100);
            CHECK.putDue("15: kind " + kind + " leaves c", unit, 2, -7);
        }
    }

    private static void calculationsOutOfRange() {
        ResidueUnit unit = Check.with(H, 1, -H);
        unit.instruct(0, 1, 3, 0, 1);
        unit.instruct(1, 2, 4, 2, 1);
        unit.instruct(2, 3, 5, 0, 0);
        unit.instruct(3, 4, 6, 0, 1);
        unit.instruct(4, 4, 1, 0, 1);
        runDue("out of range", unit, 2000, 6, 1);
        CHECK.due("15: H + 1 is not sure", unit.sure(3), false);
        CHECK.due("15: H + 1 is -H", unit.compare(3, 2), 0);
        CHECK.due("15: -H - 1 is not sure", unit.sure(4), false);
        CHECK.due("15: -H - 1 is H", unit.compare(4, 0), 0);
        CHECK.due("15: H * H is not sure", unit.sure(5), false);
        CHECK.putDue("15: 0 + H * 1", unit, 6, H);
        CHECK.due("15: 1 + H * 1 is not sure", unit.sure(1), false);
    }

    /** "5 SCALING of b down into a, c telling the moduli (bit k for channel k + 1)" */
    private static void scalingDown() {
        ResidueUnit unit = Check.with(-252, 250, -H, H, 1);
        unit.work(0, 5, 3, 4);
        unit.instruct(0, 5, 6, 0, 1);
        unit.instruct(1, 5, 7, 1, 1);
        unit.instruct(2, 5, 8, 2, 15);
        unit.instruct(3, 5, 9, 3, 32);
        unit.instruct(4, 5, 5, 5, 15);
        runDue("scaling", unit, 2000, 6, 1);
        CHECK.putDue("15: -252 by 251", unit, 6, -2);
        CHECK.putDue("15: 250 by 251", unit, 7, 0);
        CHECK.putDue("15: -H by four moduli", unit, 8, -25992);
        CHECK.putDue("15: H by 227", unit, 9, 385700385296L);
        CHECK.putDue("15: H + 1 in place", unit, 5, -25992);
        CHECK.putDue("15: scaling leaves b", unit, 0, -252);
    }

    /** "6 COPY b to a"; "A copy takes both over." */
    private static void copies() {
        ResidueUnit unit = Check.with(9, -252, H, 1, 0, 6);
        unit.inject(1, 8, 3);
        unit.work(0, 2, 2, 3);
        unit.instruct(0, 6, 0, 1, 0);
        unit.instruct(1, 6, 4, 2, 0);
        unit.instruct(2, 6, 2, 5, 0);
        unit.instruct(3, 6, 5, 5, 0);
        unit.instruct(4, 6, 15, 5, 0);
        runDue("copies", unit, 2000, 6, 1);
        for (int k = 1; k <= 8; k++) {
            CHECK.due("15: copy of a fault, channel " + k, unit.channel(0, k), Check.residue(k == 8 ? -249 : -252, k));
            CHECK.due("15: copy of H + 1, channel " + k, unit.channel(4, k), Check.residue(H + 1, k));
        }
        CHECK.due("15: copy of a fault is sure", unit.sure(0), true);
        CHECK.due("15: copy of a fault, interval", unit.bound(0, 0), -252L);
        CHECK.due("15: copy of H + 1 is not sure", unit.sure(4), false);
        CHECK.putDue("15: copy of 6", unit, 2, 6);
        CHECK.putDue("15: copy to itself", unit, 5, 6);
        CHECK.putDue("15: copy to 15", unit, 15, 6);
        unit.inject(15, 1, 1);
        unit.load(2, 8);
        CHECK.putDue("15: a copy is apart", unit, 5, 6);
    }

    /** "7 GO to a" */
    private static void goes() {
        for (int i : new int[] {1, 2, 15, 16, 30, 31}) {
            ResidueUnit unit = new ResidueUnit();
            unit.instruct(0, 7, i, 0, 0);
            unit.instruct(i, 11, 2, i, 0);
            runDue("go to " + i, unit, 2, 2, i == 31 ? 2 : 3);
            CHECK.putDue("15: go to " + i, unit, 2, i);
        }
        ResidueUnit unit = new ResidueUnit();
        unit.instruct(0, 7, 0, 0, 0);
        runDue("go to itself", unit, 2000, 2000, 3);
    }

    /** "8 if the value of a is below 0, go to b" */
    private static void goesIfBelowZero() {
        for (long number : new long[] {-H, -1, 0, 1, H}) {
            goesIfDue("value " + number, Check.with(number), number < 0);
        }
        ResidueUnit above = Check.with(H, 1);
        above.work(0, 0, 0, 1);
        goesIfDue("H + 1 is -H", above, true);
        ResidueUnit below = Check.with(-H, -1);
        below.work(0, 0, 0, 1);
        goesIfDue("-H - 1 is H", below, false);
        ResidueUnit faulty = Check.with(-1);
        faulty.inject(0, 7, 1);
        faulty.inject(0, 8, 1);
        goesIfDue("-1 with the witnesses of 0", faulty, true);
        ResidueUnit other = new ResidueUnit();
        other.inject(0, 7, -1);
        other.inject(0, 8, -1);
        goesIfDue("0 with the witnesses of -1", other, false);
    }

    private static void goesIfDue(String what, ResidueUnit unit, boolean goes) {
        unit.instruct(0, 8, 0, 31, 0);
        unit.instruct(1, 11, 2, 1, 0);
        unit.instruct(31, 11, 2, 2, 0);
        runDue(what, unit, 2000, goes ? 2 : 3, goes ? 2 : 1);
        CHECK.putDue("15: " + what, unit, 2, goes ? 2 : 1);
    }

    /** "9 the COUNTER becomes a; 10 the counter one less, and if it isn't 0 then, go to a" */
    private static void counts() {
        for (int times : new int[] {1, 2, 10, 500, 998}) {
            ResidueUnit unit = Check.with(0, 1);
            unit.instruct(0, 9, times, 0, 0);
            unit.instruct(1, 1, 0, 0, 1);
            unit.instruct(2, 10, 1, 0, 0);
            unit.instruct(3, 11, 2, 5, 0);
            runDue(times + " times", unit, 2000, 2 * times + 3, 1);
            CHECK.putDue("15: " + times + " times", unit, 0, times);
            CHECK.putDue("15: " + times + " times, then the next one", unit, 2, 5);
        }
        ResidueUnit unit = new ResidueUnit();
        unit.instruct(0, 9, 1000, 0, 0);
        unit.instruct(1, 10, 1, 0, 0);
        runDue("1000 times", unit, 2000, 1002, 1);
        unit.instruct(0, 9, 999, 0, 0);
        runDue("999 times", unit, 2000, 1001, 1);
    }

    /** One less than 0 isn't 0, nor is what comes after it. */
    private static void countsPastZero() {
        ResidueUnit unit = new ResidueUnit();
        unit.instruct(0, 9, 0, 0, 0);
        unit.instruct(1, 10, 1, 0, 0);
        runDue("from 0", unit, 2000, 2000, 3);
        unit.instruct(0, 9, 1, 0, 0);
        unit.instruct(2, 10, 4, 0, 0);
        unit.instruct(4, 11, 2, 5, 0);
        runDue("from 1, twice", unit, 2000, 5, 1);
        CHECK.putDue("15: the second time it goes", unit, 2, 5);
    }

    /** "the counter is 0 first" */
    private static void counterIsZeroFirst() {
        ResidueUnit unit = new ResidueUnit();
        unit.instruct(0, 9, 1, 0, 0);
        runDue("the counter is set to 1", unit, 1, 1, 3);
        unit.instruct(0, 10, 31, 0, 0);
        unit.instruct(31, 11, 2, 5, 0);
        runDue("not 1 but 0 first", unit, 2000, 2, 2);
        CHECK.putDue("15: one less than 0 goes", unit, 2, 5);
    }

    /** "11 the number b is put into a" */
    private static void numbersArePut() {
        ResidueUnit unit = Check.busy();
        unit.instruct(0, 11, Check.UNSURE, -128, 0);
        unit.instruct(1, 11, Check.TWO_FAULTS, 127, 0);
        unit.instruct(2, 11, 15, 0, 0);
        unit.instruct(3, 0, 0, 0, 0);
        runDue("numbers", unit, 2000, 4, 1);
        CHECK.putDue("15: -128 over what is not sure", unit, Check.UNSURE, -128);
        CHECK.putDue("15: 127 over two faults", unit, Check.TWO_FAULTS, 127);
        CHECK.putDue("15: 0", unit, 15, 0);
    }

    /** "It begins with instruction 0", after a run that ended elsewhere too. */
    private static void beginsWithInstructionZero() {
        ResidueUnit unit = Check.with(0, 1);
        unit.instruct(0, 1, 0, 0, 1);
        unit.instruct(1, 11, 2, 7, 0);
        runDue("first", unit, 1, 1, 3);
        CHECK.putDue("15: instruction 0", unit, 0, 1);
        runDue("second", unit, 1, 1, 3);
        CHECK.putDue("15: instruction 0 again", unit, 0, 2);
        CHECK.putDue("15: instruction 1 not yet", unit, 2, 0);
    }

    /** "stops at STOP"; "each instruction costs 1, STOP too" */
    private static void stopsAtStop() {
        for (int i = 0; i < 32; i++) {
            ResidueUnit unit = allPuts();
            unit.instruct(i, 0, 0, 0, 0);
            runDue("STOP at " + i, unit, 2000, i + 1, 1);
            runDue("STOP at " + i + " with the last fuel", unit, i + 1, i + 1, 1);
            runDue("STOP at " + i + " not reached", unit, i, i, 3);
        }
    }

    /** An object whose instructions put numbers into registers 0 to 7, with no STOP among them. */
    private static ResidueUnit allPuts() {
        ResidueUnit unit = new ResidueUnit();
        for (int i = 0; i < 32; i++) {
            unit.instruct(i, 11, i % 8, i, 0);
        }
        return unit;
    }

    /** "behind instruction 31": with each kind that doesn't go elsewhere. */
    private static void stopsBehindTheLast() {
        int[][] last = {{1, 8, 8, 8}, {2, 8, 8, 8}, {3, 8, 8, 8}, {4, 8, 8, 8}, {5, 8, 8, 1}, {6, 8, 8, 0},
            {8, 8, 0, 0}, {9, 5, 0, 0}, {11, 8, 0, 0}};
        for (int[] now : last) {
            ResidueUnit unit = allPuts();
            unit.instruct(31, now[0], now[1], now[2], now[3]);
            runDue("behind kind " + now[0], unit, 2000, 32, 2);
            runDue("behind kind " + now[0] + ", fuel left", unit, 33, 32, 2);
            runDue("behind kind " + now[0] + ", the last fuel", unit, 32, 32, 2);
            runDue("before kind " + now[0] + ", no fuel", unit, 31, 31, 3);
        }
        ResidueUnit unit = allPuts();
        unit.instruct(30, 9, 1, 0, 0);
        unit.instruct(31, 10, 0, 0, 0);
        runDue("behind a counter at 0", unit, 2000, 32, 2);
        ResidueUnit whole = allPuts();
        whole.run(2000);
        CHECK.putDue("15: the last was done", whole, 7, 31);
        CHECK.putDue("15: the last but one was done", whole, 6, 30);
    }

    private static void jumpsFromTheLast() {
        ResidueUnit unit = allPuts();
        unit.instruct(31, 7, 0, 0, 0);
        runDue("from 31 to 0", unit, 2000, 2000, 3);
        unit.instruct(0, 9, 2, 0, 0);
        unit.instruct(31, 10, 1, 0, 0);
        runDue("from 31 to 1, once", unit, 2000, 32 + 31, 2);
        unit.load(8, -1);
        unit.instruct(31, 8, 8, 31, 0);
        runDue("from 31 to itself", unit, 100, 100, 3);
    }

    /** "or when no FUEL is left (each instruction costs 1 ...)" */
    private static void stopsWithoutFuel() {
        ResidueUnit unit = new ResidueUnit();
        runDue("no fuel for STOP", unit, 0, 0, 3);
        runDue("fuel for STOP", unit, 1, 1, 1);
        unit.instruct(0, 11, 0, 5, 0);
        runDue("no fuel for a number", unit, 0, 0, 3);
        CHECK.putDue("15: without fuel nothing is done", unit, 0, 0);
        runDue("fuel for a number", unit, 1, 1, 3);
        CHECK.putDue("15: with fuel it is done", unit, 0, 5);
        runDue("fuel for a number and STOP", unit, 2, 2, 1);
        eachCostsOne();
    }

    private static void eachCostsOne() {
        for (int kind = 1; kind <= 11; kind++) {
            ResidueUnit unit = Check.with(-1, -1, -1, -1);
            for (int i = 0; i < 4; i++) {
                boolean aIsInstruction = kind == 7 || kind == 10;
                unit.instruct(i, kind, aIsInstruction ? i + 1 : 3, kind == 8 ? i + 1 : 1, 2);
            }
            for (int fuel = 0; fuel <= 4; fuel++) {
                runDue("kind " + kind + " four times", unit, fuel, fuel, 3);
            }
            runDue("kind " + kind + " four times, then STOP", unit, 5, 5, 1);
        }
    }

    /** "IllegalArgumentException if fuel is not 0 .. 2000" */
    private static void noSuchFuel() {
        for (int fuel : new int[] {0, 1, 1999, 2000}) {
            CHECK.taken("15: fuel " + fuel, unit -> unit.run(fuel));
            ResidueUnit unit = new ResidueUnit();
            unit.instruct(0, 7, 0, 0, 0);
            runDue("fuel " + fuel, unit, fuel, fuel, 3);
        }
        for (int fuel : new int[] {-1, 2001, 2002, -2000, 65536, Check.MANY, Check.FEW}) {
            CHECK.refused("15: fuel " + fuel, IllegalArgumentException.class, unit -> unit.run(fuel));
        }
    }

    private static void registersStayBetweenRuns() {
        ResidueUnit unit = Check.with(0, 1);
        unit.instruct(0, 1, 0, 0, 1);
        runDue("first", unit, 9, 2, 1);
        runDue("second", unit, 9, 2, 1);
        CHECK.putDue("15: registers stay between runs", unit, 0, 2);
    }
}
