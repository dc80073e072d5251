/** Promise 8: channel. */
public final class ChannelTest {
    private static final Check CHECK = new Check();

    public static void main(String[] args) {
        residuesOfNumbers();
        residuesAsTheyAre();
        changesNothing();
        noSuchRegister();
        noSuchChannel();
        CHECK.finish();
    }

    /** "CHANNELS 1 .. 8 have the MODULI 251, 241, 239, 233, 229, 227, 256, 255." */
    private static void residuesOfNumbers() {
        int[] moduli = {251, 241, 239, 233, 229, 227, 256, 255};
        ResidueUnit unit = new ResidueUnit();
        for (int r : new int[] {0, 15}) {
            for (int k = 1; k <= 8; k++) {
                int modulus = moduli[k - 1];
                unit.load(r, modulus - 1);
                CHECK.due("8: the last residue of " + k, unit.channel(r, k), modulus - 1);
                unit.load(r, modulus);
                CHECK.due("8: the modulus of " + k, unit.channel(r, k), 0);
                unit.load(r, -1);
                CHECK.due("8: -1 in " + k, unit.channel(r, k), modulus - 1);
                unit.load(r, -modulus);
                CHECK.due("8: less the modulus of " + k, unit.channel(r, k), 0);
            }
        }
    }

    /** "A register's residue in a channel", whether it is good or not. */
    private static void residuesAsTheyAre() {
        ResidueUnit unit = Check.with(1000);
        unit.inject(0, 2, 7);
        unit.inject(0, 7, -7);
        for (int k = 1; k <= 8; k++) {
            int off = k == 2 ? 7 : k == 7 ? -7 : 0;
            CHECK.due("8: channel " + k, unit.channel(0, k), Check.residue(1000 + off, k));
        }
    }

    private static void changesNothing() {
        ResidueUnit unit = Check.with(1000);
        unit.channel(0, 1);
        unit.channel(0, 8);
        CHECK.putDue("8: after channel", unit, 0, 1000);
    }

    /** "IndexOutOfBoundsException if there is no such register" */
    private static void noSuchRegister() {
        for (int wrong : Check.NO_REGISTERS) {
            CHECK.refused("8: register " + wrong, IndexOutOfBoundsException.class, unit -> unit.channel(wrong, 1));
        }
        CHECK.taken("8: register 0", unit -> unit.channel(0, 1));
        CHECK.taken("8: register 15", unit -> unit.channel(15, 1));
    }

    /** "or channel" */
    private static void noSuchChannel() {
        for (int wrong : Check.NO_CHANNELS) {
            CHECK.refused("8: channel " + wrong, IndexOutOfBoundsException.class, unit -> unit.channel(5, wrong));
            CHECK.refused("8: both " + wrong, IndexOutOfBoundsException.class, unit -> unit.channel(16, wrong));
        }
        CHECK.taken("8: channel 1", unit -> unit.channel(5, 1));
        CHECK.taken("8: channel 8", unit -> unit.channel(5, 8));
    }
}
