import java.util.Objects;

/** Counts and prints the answers that are not as due. */
final class Check {
    private int asDue = 0;
    private int wrong = 0;

    /** A new object with the numbers in its first registers. */
    static ResidueUnit with(long... numbers) {
        ResidueUnit unit = new ResidueUnit();
        for (int r = 0; r < numbers.length; r++) {
            unit.load(r, numbers[r]);
        }
        return unit;
    }

    void due(String what, Object got, Object want) {
        if (Objects.equals(got, want)) {
            asDue++;
            return;
        }
        wrong++;
        System.out.println(what + " answered " + got + ", due is " + want);
    }

    /** The call must throw just this class and leave all that the object shows as it was. */
    void refused(String what, ResidueUnit unit, Class<? extends RuntimeException> want, Runnable call) {
        String before = shownBy(unit);
        Class<?> got = null;
        try {
            call.run();
        } catch (RuntimeException e) {
            got = e.getClass();
        }
        due(what + " throws", got, want);
        due(what + " leaves", shownBy(unit), before);
    }

    private static String shownBy(ResidueUnit unit) {
        StringBuilder text = new StringBuilder();
        for (int r = 0; r < 16; r++) {
            for (int k = 1; k <= 8; k++) {
                text.append(unit.channel(r, k)).append(' ');
            }
            text.append(unit.sure(r) ? unit.bound(r, 0) + ".." + unit.bound(r, 1) : "unsure").append('\n');
        }
        return text.append(unit.stopped()).toString();
    }

    void finish() {
        System.out.println(asDue + " passed, " + wrong + " failed");
        if (wrong != 0) {
            System.exit(1);
        }
    }
}
