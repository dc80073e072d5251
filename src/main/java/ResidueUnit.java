/** An arithmetic unit whose sixteen registers hold residues in eight channels. */
public final class ResidueUnit {
    private static final int CHANNELS = 8;
    /** The first channels tell the value; the ones behind them only bear witness. */
    private static final int VALUE_CHANNELS = 6;
    /** Index of the channel with modulus 256, from which a lost residue is found. */
    private static final int FIRST_WITNESS = 6;
    private static final int[] MODULI = {251, 241, 239, 233, 229, 227, 256, 255};

    private static final long M = 175107974924611L;
    private static final long H = (M - 1) / 2;
    /** For each value channel the number below M that is 1 in it and 0 in the other five. */
    private static final long[] WEIGHTS = {
        35579708052411L, 51587826637541L, 114296418779244L,
        174356438551544L, 16822600211098L, 132680932541996L
    };
    /** For each value channel the inverse, mod 256, of M divided by its modulus. */
    private static final int[] WITNESS_INVERSES = {233, 187, 229, 99, 183, 225};

    private static final int REGISTERS = 16;
    private static final int NO_CHANNEL = -1;
    private static final int NO_RESIDUE = -1;
    private static final int NO_FAULT = 0;
    private static final int BEYOND_REPAIR = 9;
    private static final int MOST_SCALING_MODULI = 4;

    private static final int ADD = 0;
    private static final int SUBTRACT = 1;
    private static final int MULTIPLY = 2;
    private static final int MULTIPLY_AND_ADD = 3;

    private static final int INSTRUCTIONS = 32;
    private static final int KIND_STOP = 0;
    private static final int KIND_ADD = 1;
    private static final int KIND_SUBTRACT = 2;
    private static final int KIND_MULTIPLY = 3;
    private static final int KIND_MULTIPLY_AND_ADD = 4;
    private static final int KIND_SCALE = 5;
    private static final int KIND_COPY = 6;
    private static final int KIND_GO = 7;
    private static final int KIND_GO_IF_NEGATIVE = 8;
    private static final int KIND_SET_COUNTER = 9;
    private static final int KIND_COUNT_DOWN = 10;
    private static final int KIND_PUT = 11;
    private static final int MOST_COUNTER = 1000;
    private static final int LEAST_NUMBER = -128;
    private static final int MOST_NUMBER = 127;
    private static final int MOST_FUEL = 2000;

    /** Stands in the place of the next instruction's number once STOP was done. */
    private static final int AT_STOP = -1;
    private static final int NEVER_RAN = 0;
    private static final int STOPPED_AT_STOP = 1;
    private static final int STOPPED_BEHIND_LAST = 2;
    private static final int STOPPED_WITHOUT_FUEL = 3;

    private final Register[] registers = new Register[REGISTERS];
    private final Instruction[] program = new Instruction[INSTRUCTIONS];
    private int counter = 0;
    private int stopReason = NEVER_RAN;

    public ResidueUnit() {
        for (int r = 0; r < REGISTERS; r++) {
            registers[r] = new Register();
        }
        for (int i = 0; i < INSTRUCTIONS; i++) {
            program[i] = new Instruction();
        }
    }

    public void load(int r, long v) throws IndexOutOfBoundsException, IllegalArgumentException {
        requireRegister(r);
        if (!inRange(v)) {
            throw new IllegalArgumentException("the number is not in range");
        }
        registers[r].put(v);
    }

    public long binary(int r) throws IndexOutOfBoundsException, IllegalStateException {
        requireRegister(r);
        if (!registers[r].isGood()) {
            throw new IllegalStateException("the register is not good");
        }
        return registers[r].value();
    }

    public void work(int op, int d, int a, int b) throws IndexOutOfBoundsException, IllegalArgumentException {
        requireRegister(d);
        requireRegister(a);
        requireRegister(b);
        if (op < ADD || op > MULTIPLY_AND_ADD) {
            throw new IllegalArgumentException("there is no such op");
        }
        registers[d].combine(op, registers[a], registers[b]);
    }

    public int compare(int a, int b) throws IndexOutOfBoundsException {
        requireRegister(a);
        requireRegister(b);
        long left = registers[a].value();
        long right = registers[b].value();
        return left < right ? -1 : left > right ? 1 : 0;
    }

    public void scale(int d, int a, int moduli, boolean nearest) throws IndexOutOfBoundsException, IllegalArgumentException {
        requireRegister(d);
        requireRegister(a);
        if (!areScalingModuli(moduli)) {
            throw new IllegalArgumentException("the moduli are not one to four of the first six");
        }
        putScaled(d, a, moduli, nearest);
    }

    public void divide(int q, int r, int a, int b) throws IndexOutOfBoundsException, ArithmeticException {
        requireRegister(q);
        requireRegister(r);
        requireRegister(a);
        requireRegister(b);
        long dividend = registers[a].value();
        long divisor = registers[b].value();
        if (divisor == 0) {
            throw new ArithmeticException("the divisor is 0");
        }
        registers[q].put(dividend / divisor);
        registers[r].put(dividend % divisor);
    }

    public int channel(int r, int k) throws IndexOutOfBoundsException {
        requireRegister(r);
        requireChannel(k);
        return registers[r].residues[k - 1];
    }

    public int inject(int r, int k, int e) throws IndexOutOfBoundsException {
        requireRegister(r);
        requireChannel(k);
        return registers[r].shift(k - 1, e);
    }

    public int verify(int r) throws IndexOutOfBoundsException {
        requireRegister(r);
        return registers[r].fault();
    }

    public int repair(int r) throws IndexOutOfBoundsException, IllegalStateException {
        requireRegister(r);
        int fault = registers[r].fault();
        if (fault == BEYOND_REPAIR) {
            throw new IllegalStateException("no single channel is the fault");
        }
        if (fault != NO_FAULT) {
            registers[r].heal(fault - 1);
        }
        return fault;
    }

    public boolean sure(int r) throws IndexOutOfBoundsException {
        requireRegister(r);
        return registers[r].sure;
    }

    public long bound(int r, int end) throws IndexOutOfBoundsException, IllegalArgumentException, IllegalStateException {
        requireRegister(r);
        if (end != 0 && end != 1) {
            throw new IllegalArgumentException("there is no such end");
        }
        if (!registers[r].sure) {
            throw new IllegalStateException("the register is not sure");
        }
        return registers[r].exact;
    }

    public void instruct(int i, int kind, int a, int b, int c) throws IndexOutOfBoundsException, IllegalArgumentException {
        if (!isInstruction(i)) {
            throw new IndexOutOfBoundsException("there is no such instruction");
        }
        if (!isAllowed(kind, a, b, c)) {
            throw new IllegalArgumentException("there is no such instruction to be written");
        }
        program[i].become(kind, a, b, c);
    }

    public int run(int fuel) throws IllegalArgumentException {
        if (fuel < 0 || fuel > MOST_FUEL) {
            throw new IllegalArgumentException("the fuel is not 0 to 2000");
        }
        counter = 0;
        int next = 0;
        int done = 0;
        while (done < fuel && isInstruction(next)) {
            next = step(next);
            done++;
        }
        stopReason = reasonAt(next);
        return done;
    }

    public int stopped() {
        return stopReason;
    }

    private static void requireRegister(int r) {
        if (!isRegister(r)) {
            throw new IndexOutOfBoundsException("there is no such register");
        }
    }

    private static void requireChannel(int k) {
        if (k < 1 || k > CHANNELS) {
            throw new IndexOutOfBoundsException("there is no such channel");
        }
    }

    private static boolean isRegister(int r) {
        return r >= 0 && r < REGISTERS;
    }

    private static boolean isInstruction(int i) {
        return i >= 0 && i < INSTRUCTIONS;
    }

    private static boolean areScalingModuli(int moduli) {
        return moduli > 0 && moduli < 1 << VALUE_CHANNELS && Integer.bitCount(moduli) <= MOST_SCALING_MODULI;
    }

    private static boolean inRange(long number) {
        return number >= -H && number <= H;
    }

    private static boolean isAllowed(int kind, int a, int b, int c) {
        switch (kind) {
            case KIND_STOP:
                return true;
            case KIND_ADD:
            case KIND_SUBTRACT:
            case KIND_MULTIPLY:
            case KIND_MULTIPLY_AND_ADD:
                return isRegister(a) && isRegister(b) && isRegister(c);
            case KIND_SCALE:
                return isRegister(a) && isRegister(b) && areScalingModuli(c);
            case KIND_COPY:
                return isRegister(a) && isRegister(b);
            case KIND_GO:
            case KIND_COUNT_DOWN:
                return isInstruction(a);
            case KIND_GO_IF_NEGATIVE:
                return isRegister(a) && isInstruction(b);
            case KIND_SET_COUNTER:
                return a >= 0 && a <= MOST_COUNTER;
            case KIND_PUT:
                return isRegister(a) && b >= LEAST_NUMBER && b <= MOST_NUMBER;
            default:
                return false;
        }
    }

    /** Does one instruction and tells which one is next, or AT_STOP. */
    private int step(int at) {
        Instruction now = program[at];
        switch (now.kind) {
            case KIND_STOP:
                return AT_STOP;
            case KIND_GO:
                return now.a;
            case KIND_GO_IF_NEGATIVE:
                return registers[now.a].value() < 0 ? now.b : at + 1;
            case KIND_SET_COUNTER:
                counter = now.a;
                return at + 1;
            case KIND_COUNT_DOWN:
                counter--;
                return counter != 0 ? now.a : at + 1;
            default:
                calculate(now);
                return at + 1;
        }
    }

    private void calculate(Instruction now) {
        switch (now.kind) {
            case KIND_SCALE:
                putScaled(now.a, now.b, now.c, false);
                break;
            case KIND_COPY:
                registers[now.a].copyFrom(registers[now.b]);
                break;
            case KIND_PUT:
                registers[now.a].put(now.b);
                break;
            default:
                registers[now.a].combine(now.kind - KIND_ADD, registers[now.b], registers[now.c]);
                break;
        }
    }

    /** An end of the program counts before an end of the fuel, as it needs none to be reached. */
    private static int reasonAt(int next) {
        if (next == AT_STOP) {
            return STOPPED_AT_STOP;
        }
        return isInstruction(next) ? STOPPED_WITHOUT_FUEL : STOPPED_BEHIND_LAST;
    }

    private void putScaled(int d, int a, int moduli, boolean nearest) {
        long divisor = productOf(moduli);
        long value = registers[a].value();
        registers[d].put(nearest
            ? Math.floorDiv(2 * value + divisor, 2 * divisor)
            : Math.floorDiv(value, divisor));
    }

    private static long productOf(int moduli) {
        long product = 1;
        for (int k = 0; k < VALUE_CHANNELS; k++) {
            if ((moduli >> k & 1) == 1) {
                product *= MODULI[k];
            }
        }
        return product;
    }

    private static int residueOf(long number, int k) {
        return (int) Math.floorMod(number, (long) MODULI[k]);
    }

    private static int combineResidues(int op, int k, int target, int x, int y) {
        int modulus = MODULI[k];
        switch (op) {
            case ADD:
                return (x + y) % modulus;
            case SUBTRACT:
                return (x + modulus - y) % modulus;
            case MULTIPLY:
                return x * y % modulus;
            default:
                return (target + x * y) % modulus;
        }
    }

    /** Exact where the result is in range; a result out of range may come out as another one out of range. */
    private static long combineNumbers(int op, long target, long x, long y) {
        switch (op) {
            case ADD:
                return x + y;
            case SUBTRACT:
                return x - y;
            case MULTIPLY:
                return cappedProduct(x, y);
            default:
                return target + cappedProduct(x, y);
        }
    }

    /** A long can't hold every product: one that no number in range, added, brings back into range becomes M. */
    private static long cappedProduct(long x, long y) {
        boolean tooGreat = y != 0 && Math.abs(x) > (M - 1) / Math.abs(y);
        return tooGreat ? M : x * y;
    }

    private static final class Register {
        final int[] residues = new int[CHANNELS];
        /**
         * The one number of the interval, while the register is sure. Every interval has just one: it begins
         * with a number that was put, and sums and products of single numbers are single numbers.
         */
        long exact = 0;
        boolean sure = true;

        void put(long number) {
            for (int k = 0; k < CHANNELS; k++) {
                residues[k] = residueOf(number, k);
            }
            exact = number;
            sure = true;
        }

        void copyFrom(Register other) {
            System.arraycopy(other.residues, 0, residues, 0, CHANNELS);
            exact = other.exact;
            sure = other.sure;
        }

        void combine(int op, Register x, Register y) {
            for (int k = 0; k < CHANNELS; k++) {
                residues[k] = combineResidues(op, k, residues[k], x.residues[k], y.residues[k]);
            }
            boolean trusted = x.sure && y.sure && (sure || op != MULTIPLY_AND_ADD);
            long result = trusted ? combineNumbers(op, exact, x.exact, y.exact) : 0;
            sure = trusted && inRange(result);
            exact = sure ? result : 0;
        }

        int shift(int k, int e) {
            residues[k] = (residues[k] + Math.floorMod(e, MODULI[k])) % MODULI[k];
            return residues[k];
        }

        long value() {
            long sum = 0;
            for (int k = 0; k < VALUE_CHANNELS; k++) {
                sum += residues[k] * WEIGHTS[k];
            }
            long number = sum % M;
            return number > H ? number - M : number;
        }

        boolean isGood() {
            return fits(value(), NO_CHANNEL);
        }

        int fault() {
            if (isGood()) {
                return NO_FAULT;
            }
            for (int k = 0; k < CHANNELS; k++) {
                if (healingResidue(k) != NO_RESIDUE) {
                    return k + 1;
                }
            }
            return BEYOND_REPAIR;
        }

        void heal(int k) {
            int residue = healingResidue(k);
            if (residue != NO_RESIDUE) {
                residues[k] = residue;
            }
        }

        /** The residue of channel k with which the register is good; there is never more than one. */
        private int healingResidue(int k) {
            long number = k < VALUE_CHANNELS ? numberWithout(k) : value();
            return fits(number, k) ? residueOf(number, k) : NO_RESIDUE;
        }

        /**
         * The only number that can have the residues of all channels but value channel k: of those that have
         * the other five of the value, which lie one step apart, the one that has the first witness's too.
         * It is out of range if that takes more steps than the range has.
         */
        private long numberWithout(int k) {
            long step = M / MODULI[k];
            long least = Math.floorMod(value() + H, step) - H;
            long steps = residueOf((residues[FIRST_WITNESS] - least) * WITNESS_INVERSES[k], FIRST_WITNESS);
            return least + steps * step;
        }

        private boolean fits(long number, int skipped) {
            for (int k = 0; k < CHANNELS; k++) {
                if (k != skipped && residueOf(number, k) != residues[k]) {
                    return false;
                }
            }
            return inRange(number);
        }
    }

    private static final class Instruction {
        int kind = KIND_STOP;
        int a = 0;
        int b = 0;
        int c = 0;

        void become(int newKind, int newA, int newB, int newC) {
            kind = newKind;
            a = newA;
            b = newB;
            c = newC;
        }
    }
}
