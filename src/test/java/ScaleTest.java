/** Promise 6: scale. */
public final class ScaleTest {
    private static final long H = Check.H;
    private static final Check CHECK = new Check();

    public static void main(String[] args) {
        roundDown();
        roundToTheNearest();
        edgesOfRange();
        eachChoiceOfModuli();
        intoItself();
        valueOfWhatIsNotGood();
        sureThoughTheSourceIsNot();
        firstAndLastRegister();
        noSuchRegister();
        notOneToFourOfSix();
        registerBeforeModuli();
        CHECK.finish();
    }

    private static void scaleDue(long number, int moduli, boolean nearest, long want) {
        ResidueUnit unit = Check.with(77, number);
        unit.scale(0, 1, moduli, nearest);
        String what = "6: scale of " + number + " by " + moduli + (nearest ? ", nearest" : ", down");
        CHECK.putDue(what, unit, 0, want);
        CHECK.putDue(what + " leaves the source", unit, 1, number);
    }

    /** "the value divided by S, down" */
    private static void roundDown() {
        scaleDue(0, 1, false, 0);
        scaleDue(250, 1, false, 0);
        scaleDue(251, 1, false, 1);
        scaleDue(501, 1, false, 1);
        scaleDue(502, 1, false, 2);
        scaleDue(-1, 1, false, -1);
        scaleDue(-251, 1, false, -1);
        scaleDue(-252, 1, false, -2);
    }

    /** "or to the nearest": S is odd, so that no two are ever as near. */
    private static void roundToTheNearest() {
        scaleDue(0, 1, true, 0);
        scaleDue(125, 1, true, 0);
        scaleDue(126, 1, true, 1);
        scaleDue(251, 1, true, 1);
        scaleDue(376, 1, true, 1);
        scaleDue(377, 1, true, 2);
        scaleDue(-125, 1, true, 0);
        scaleDue(-126, 1, true, -1);
        scaleDue(-251, 1, true, -1);
        scaleDue(-376, 1, true, -1);
        scaleDue(-377, 1, true, -2);
    }

    private static void edgesOfRange() {
        scaleDue(H, 15, false, 25991);
        scaleDue(-H, 15, false, -25992);
        scaleDue(H, 15, true, 25991);
        scaleDue(-H, 15, true, -25991);
        scaleDue(H, 32, false, 385700385296L);
        scaleDue(-H, 32, false, -385700385297L);
        scaleDue(H, 32, true, 385700385296L);
        scaleDue(-H, 32, true, -385700385296L);
    }

    private static long productOf(int moduli) {
        long product = 1;
        for (int k = 0; k < 6; k++) {
            product *= (moduli & 1 << k) != 0 ? Check.MODULI[k] : 1;
        }
        return product;
    }

    private static boolean isOneToFourOfSix(int moduli) {
        return moduli > 0 && moduli < 64 && Integer.bitCount(moduli) <= 4;
    }

    /** "bit k of moduli stands for channel k + 1" */
    private static void eachChoiceOfModuli() {
        for (int moduli = 1; moduli < 64; moduli++) {
            if (!isOneToFourOfSix(moduli)) {
                continue;
            }
            long product = productOf(moduli);
            long half = product / 2;
            scaleDue(3 * product, moduli, false, 3);
            scaleDue(3 * product - 1, moduli, false, 2);
            scaleDue(-3 * product, moduli, false, -3);
            scaleDue(-3 * product - 1, moduli, false, -4);
            scaleDue(3 * product + half, moduli, true, 3);
            scaleDue(3 * product + half + 1, moduli, true, 4);
            scaleDue(-3 * product - half, moduli, true, -3);
            scaleDue(-3 * product - half - 1, moduli, true, -4);
        }
    }

    private static void intoItself() {
        ResidueUnit unit = Check.with(10000);
        unit.scale(0, 0, 1, false);
        CHECK.putDue("6: scale into itself", unit, 0, 39);
    }

    private static void valueOfWhatIsNotGood() {
        ResidueUnit unit = Check.with(77, 10000);
        unit.inject(1, 7, 3);
        unit.inject(1, 8, 3);
        unit.scale(0, 1, 1, false);
        CHECK.putDue("6: what is scaled is the value", unit, 0, 39);
        CHECK.due("6: the source is not mended", unit.verify(1) != 0, true);
    }

    /** "is sure (in scaling and division just as in loading)" */
    private static void sureThoughTheSourceIsNot() {
        ResidueUnit unit = Check.with(H, 1, -H);
        unit.work(0, 3, 0, 1);
        unit.scale(4, 3, 15, false);
        CHECK.putDue("6: H + 1 is -H", unit, 4, -25992);
        CHECK.due("6: H + 1 stays unsure", unit.sure(3), false);
        unit.work(1, 3, 2, 1);
        unit.scale(3, 3, 15, true);
        CHECK.putDue("6: -H - 1 is H", unit, 3, 25991);
    }

    private static void firstAndLastRegister() {
        ResidueUnit unit = Check.with(1000);
        unit.scale(15, 0, 1, false);
        CHECK.putDue("6: into 15", unit, 15, 3);
        unit.load(15, -1000);
        unit.scale(0, 15, 1, false);
        CHECK.putDue("6: into 0", unit, 0, -4);
    }

    /** "IndexOutOfBoundsException if there is no such register" */
    private static void noSuchRegister() {
        for (int wrong : Check.NO_REGISTERS) {
            CHECK.refused("6: scale into " + wrong, IndexOutOfBoundsException.class, unit -> unit.scale(wrong, 5, 1, false));
            CHECK.refused("6: scale of " + wrong, IndexOutOfBoundsException.class, unit -> unit.scale(6, wrong, 1, true));
        }
    }

    /** "IllegalArgumentException if moduli are not one to four of the first six" */
    private static void notOneToFourOfSix() {
        for (int moduli = -70; moduli <= 260; moduli++) {
            moduliDue(moduli);
        }
        for (int bit = 6; bit < 32; bit++) {
            moduliDue(1 << bit);
            moduliDue(1 << bit | 3);
        }
        moduliDue(Check.MANY);
    }

    private static void moduliDue(int moduli) {
        for (boolean nearest : new boolean[] {false, true}) {
            String what = "6: moduli " + moduli + (nearest ? ", nearest" : ", down");
            if (isOneToFourOfSix(moduli)) {
                CHECK.taken(what, unit -> unit.scale(6, 5, moduli, nearest));
            } else {
                CHECK.refused(what, IllegalArgumentException.class, unit -> unit.scale(6, 5, moduli, nearest));
            }
        }
    }

    /** "of two exceptions the one that it names first is thrown" */
    private static void registerBeforeModuli() {
        for (int moduli : new int[] {0, 31, 64, -1}) {
            for (int wrong : new int[] {-1, 16}) {
                String what = "6: moduli " + moduli + " and register " + wrong;
                CHECK.refused(what + " as d", IndexOutOfBoundsException.class, unit -> unit.scale(wrong, 5, moduli, false));
                CHECK.refused(what + " as a", IndexOutOfBoundsException.class, unit -> unit.scale(6, wrong, moduli, true));
            }
        }
    }
}
