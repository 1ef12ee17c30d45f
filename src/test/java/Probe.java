import java.util.function.IntSupplier;

/** What an object answers to some 250 calls, as one text: two that were used alike answer alike. */
final class Probe {
    private static final int[] CARDS = {0, 3, 0x8421, 65535};

    private final KnobEye x;
    private final StringBuilder told = new StringBuilder();

    private Probe(KnobEye x) {
        this.x = x;
    }

    /** Of an object that is used no further: its cards are shown and put away, and it goes back to its image. */
    static String of(KnobEye x) {
        Probe probe = new Probe(x);
        probe.lookOnly();
        probe.turnAndPutAway();
        probe.told.append("image ").append(x.back()).append('\n');
        probe.lookOnly();
        return probe.told.toString();
    }

    /** How many bytes are on the tape; they stay there. */
    static int tape(KnobEye x) {
        for (int n = 400; n > 0; n -= 1) {
            if (x.end(n)) {
                return n;
            }
        }
        return 0;
    }

    private void tell(String name, IntSupplier call) {
        told.append(name).append(' ');
        try {
            told.append(call.getAsInt());
        } catch (RuntimeException e) {
            told.append(e.getClass().getSimpleName());
        }
        told.append('\n');
    }

    private void lookOnly() {
        for (int what = 0; what < 8; what++) {
            int its = what;
            tell("count " + what, () -> x.count(its));
        }
        for (int n = 0; n < 3; n++) {
            int eye = n;
            for (int what = 0; what <= 12; what++) {
                int its = what;
                tell("look " + eye + " " + what, () -> x.look(eye, its));
            }
            for (int card : CARDS) {
                tell("sees " + eye + " " + card, () -> x.sees(eye, card));
            }
            tell("blind " + eye, () -> x.blind(eye, KnobEye.NONE));
            tell("bars " + eye, () -> x.bars(eye, 1));
        }
        for (int n = 0; n < 4; n++) {
            int rule = n;
            for (int card : CARDS) {
                tell("right " + rule + " " + card, () -> x.right(rule, card) ? 1 : 0);
            }
        }
        for (int n = 0; n < 6; n++) {
            int claim = n;
            tell("holds " + claim, () -> x.holds(claim) ? 1 : 0);
        }
        for (int n = 0; n < 16; n++) {
            int cell = n;
            tell("along " + cell, () -> x.along(cell));
        }
    }

    private void turnAndPutAway() {
        for (int n = 0; n < 12; n++) {
            int eye = n % 3;
            int turner = n / 3;
            tell("turned " + eye + " " + turner, () -> x.turned(eye, turner, 1));
            tell("knob 0", () -> x.look(eye, 0));
            tell("line", () -> x.look(eye, 6));
        }
        for (int n = 0; n < 21; n++) {
            tell("yes cards", () -> x.count(2));
            tell("cloud", x::cloud);
            tell("away", x::away);
        }
    }
}
