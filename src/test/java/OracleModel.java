import java.math.BigInteger;

/** The document's words told again, by trying and by big numbers, to hold the program against. */
public final class OracleModel {
    static final int[] MODULI = {251, 241, 239, 233, 229, 227, 256, 255};
    private static final BigInteger M = productOf(63);
    private static final BigInteger H = M.subtract(BigInteger.ONE).shiftRight(1);

    private final int[][] residues = new int[16][8];
    private final BigInteger[] least = new BigInteger[16];
    private final BigInteger[] greatest = new BigInteger[16];
    private final boolean[] sure = new boolean[16];
    private final int[][] program = new int[32][4];
    private int why = 0;

    public OracleModel() {
        for (int r = 0; r < 16; r++) {
            put(r, BigInteger.ZERO);
        }
    }

    private static BigInteger productOf(int moduli) {
        BigInteger product = BigInteger.ONE;
        for (int k = 0; k < 6; k++) {
            product = (moduli >> k & 1) == 0 ? product : product.multiply(BigInteger.valueOf(MODULI[k]));
        }
        return product;
    }

    private void put(int r, BigInteger number) {
        for (int k = 0; k < 8; k++) {
            residues[r][k] = number.mod(BigInteger.valueOf(MODULI[k])).intValue();
        }
        least[r] = number;
        greatest[r] = number;
        sure[r] = true;
    }

    private static boolean inRange(BigInteger number) {
        return number.abs().compareTo(H) <= 0;
    }

    /** By mixed digits, one modulus after the other. */
    private static BigInteger valueOf(int[] row) {
        BigInteger number = BigInteger.ZERO;
        BigInteger weight = BigInteger.ONE;
        for (int k = 0; k < 6; k++) {
            BigInteger modulus = BigInteger.valueOf(MODULI[k]);
            BigInteger missing = BigInteger.valueOf(row[k]).subtract(number);
            BigInteger digit = missing.multiply(weight.modInverse(modulus)).mod(modulus);
            number = number.add(digit.multiply(weight));
            weight = weight.multiply(modulus);
        }
        return number.compareTo(H) > 0 ? number.subtract(M) : number;
    }

    private static boolean isGood(int[] row) {
        BigInteger number = valueOf(row);
        return number.mod(BigInteger.valueOf(256)).intValue() == row[6] && number.mod(BigInteger.valueOf(255)).intValue() == row[7];
    }

    /** The least residue of channel k with which the row is good, or -1. */
    private static int healing(int[] row, int k) {
        int[] tried = row.clone();
        for (int residue = 0; residue < MODULI[k]; residue++) {
            tried[k] = residue;
            if (residue != row[k] && isGood(tried)) {
                return residue;
            }
        }
        return -1;
    }

    private static int faultOf(int[] row) {
        if (isGood(row)) {
            return 0;
        }
        for (int k = 0; k < 8; k++) {
            if (healing(row, k) >= 0) {
                return k + 1;
            }
        }
        return 9;
    }

    private static void index(boolean there) {
        if (!there) {
            throw new IndexOutOfBoundsException();
        }
    }

    private static void argument(boolean allowed) {
        if (!allowed) {
            throw new IllegalArgumentException();
        }
    }

    private static void state(boolean allowed) {
        if (!allowed) {
            throw new IllegalStateException();
        }
    }

    private static boolean within(int number, int least, int greatest) {
        return least <= number && number <= greatest;
    }

    private static void registers(int... numbers) {
        for (int r : numbers) {
            index(within(r, 0, 15));
        }
    }

    private static boolean areModuli(int moduli) {
        return (moduli & ~63) == 0 && within(Integer.bitCount(moduli), 1, 4);
    }

    public void load(int r, long v) {
        registers(r);
        argument(inRange(BigInteger.valueOf(v)));
        put(r, BigInteger.valueOf(v));
    }

    public long binary(int r) {
        registers(r);
        state(isGood(residues[r]));
        return valueOf(residues[r]).longValueExact();
    }

    public void work(int op, int d, int a, int b) {
        registers(d, a, b);
        argument(within(op, 0, 3));
        for (int k = 0; k < 8; k++) {
            long x = residues[a][k];
            long y = residues[b][k];
            long result = op == 0 ? x + y : op == 1 ? x - y : op == 2 ? x * y : residues[d][k] + x * y;
            residues[d][k] = (int) Math.floorMod(result, (long) MODULI[k]);
        }
        trust(op, d, a, b);
    }

    private void trust(int op, int d, int a, int b) {
        boolean trusted = sure[a] && sure[b] && (op != 3 || sure[d]);
        BigInteger low = null;
        BigInteger high = null;
        for (BigInteger x : new BigInteger[] {least[a], greatest[a]}) {
            for (BigInteger y : new BigInteger[] {least[b], greatest[b]}) {
                BigInteger result = op == 0 ? x.add(y) : op == 1 ? x.subtract(y) : x.multiply(y);
                low = low == null ? result : low.min(result);
                high = high == null ? result : high.max(result);
            }
        }
        low = op == 3 ? low.add(least[d]) : low;
        high = op == 3 ? high.add(greatest[d]) : high;
        sure[d] = trusted && inRange(low) && inRange(high);
        least[d] = sure[d] ? low : BigInteger.ZERO;
        greatest[d] = sure[d] ? high : BigInteger.ZERO;
    }

    public int compare(int a, int b) {
        registers(a, b);
        return valueOf(residues[a]).compareTo(valueOf(residues[b]));
    }

    public void scale(int d, int a, int moduli, boolean nearest) {
        registers(d, a);
        argument(areModuli(moduli));
        BigInteger product = productOf(moduli);
        BigInteger value = valueOf(residues[a]);
        BigInteger rest = value.mod(product);
        BigInteger down = value.subtract(rest).divide(product);
        boolean up = nearest && rest.shiftLeft(1).compareTo(product) >= 0;
        put(d, up ? down.add(BigInteger.ONE) : down);
    }

    public void divide(int q, int r, int a, int b) {
        registers(q, r, a, b);
        BigInteger divisor = valueOf(residues[b]);
        if (divisor.signum() == 0) {
            throw new ArithmeticException();
        }
        BigInteger[] both = valueOf(residues[a]).divideAndRemainder(divisor);
        put(q, both[0]);
        put(r, both[1]);
    }

    public int channel(int r, int k) {
        registers(r);
        index(within(k, 1, 8));
        return residues[r][k - 1];
    }

    public int inject(int r, int k, int e) {
        registers(r);
        index(within(k, 1, 8));
        residues[r][k - 1] = (int) Math.floorMod((long) residues[r][k - 1] + e, (long) MODULI[k - 1]);
        return residues[r][k - 1];
    }

    public int verify(int r) {
        registers(r);
        return faultOf(residues[r]);
    }

    public int repair(int r) {
        registers(r);
        int fault = faultOf(residues[r]);
        state(fault != 9);
        if (fault != 0) {
            residues[r][fault - 1] = healing(residues[r], fault - 1);
        }
        return fault;
    }

    public boolean sure(int r) {
        registers(r);
        return sure[r];
    }

    public long bound(int r, int end) {
        registers(r);
        argument(within(end, 0, 1));
        state(sure[r]);
        return (end == 0 ? least[r] : greatest[r]).longValueExact();
    }

    /** What a, b and c of each kind are: r register, i instruction, m moduli, c counter, n number, - nothing. */
    private static final String[] FORMS = {"---", "rrr", "rrr", "rrr", "rrr", "rrm", "rr-", "i--", "ri-", "c--", "i--", "rn-"};

    public void instruct(int i, int kind, int a, int b, int c) {
        index(within(i, 0, 31));
        argument(within(kind, 0, 11));
        int[] parts = {a, b, c};
        for (int p = 0; p < 3; p++) {
            argument(isForm(FORMS[kind].charAt(p), parts[p]));
        }
        program[i] = new int[] {kind, a, b, c};
    }

    private static boolean isForm(char form, int part) {
        switch (form) {
            case 'r': return within(part, 0, 15);
            case 'i': return within(part, 0, 31);
            case 'm': return areModuli(part);
            case 'c': return within(part, 0, 1000);
            case 'n': return within(part, -128, 127);
            default: return true;
        }
    }

    public int run(int fuel) {
        argument(within(fuel, 0, 2000));
        int counter = 0;
        int at = 0;
        int done = 0;
        while (true) {
            if (at == 32) {
                why = 2;
                return done;
            }
            if (done == fuel) {
                why = 3;
                return done;
            }
            int[] now = program[at];
            done++;
            at++;
            switch (now[0]) {
                case 0: why = 1; return done;
                case 5: scale(now[1], now[2], now[3], false); break;
                case 6: copy(now[1], now[2]); break;
                case 7: at = now[1]; break;
                case 8: at = valueOf(residues[now[1]]).signum() < 0 ? now[2] : at; break;
                case 9: counter = now[1]; break;
                case 10: counter--; at = counter != 0 ? now[1] : at; break;
                case 11: put(now[1], BigInteger.valueOf(now[2])); break;
                default: work(now[0] - 1, now[1], now[2], now[3]); break;
            }
        }
    }

    private void copy(int to, int from) {
        residues[to] = residues[from].clone();
        least[to] = least[from];
        greatest[to] = greatest[from];
        sure[to] = sure[from];
    }

    public int stopped() {
        return why;
    }
}
