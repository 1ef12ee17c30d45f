/** The calls that README.md shows, with the answers that it tells. */
public final class ReadmeTest {
    public static void main(String[] args) {
        Check check = new Check("ReadmeTest");
        KnobEye x = new KnobEye();
        check.due("feed of the rule", x.feed(0x6C656674, 0x203E2072, 0x69676874, 0, 0), 20);
        check.due("end of the rule", x.end(12), true);
        int rule = x.rule();
        check.due("rule", rule, 0);
        int eye = x.eye();
        check.due("eye", eye, 0);
        check.due("wire 0", x.wire(eye, 0x3333, 0), 0);
        check.due("wire 1", x.wire(eye, 0xCCCC, 0), 1);
        check.due("card 0", x.made(1, rule), 0);
        check.due("card 1", x.made(4, rule), 1);
        check.due("yes by the rule", x.right(rule, 1), true);
        check.due("no by the rule", x.right(rule, 4), false);
        check.due("can", x.can(eye, 1), true);
        check.due("found knob 0", x.found(eye, 1, 0), 0);
        check.due("found knob 1", x.found(eye, 1, 1), -1);
        check.due("found line", x.found(eye, 1, 6), -1);
        check.due("feed of the turner", x.feed(0x7475726E, 0x20312069, 0x66207772, 0x6F6E6700, 0), 20);
        check.due("end of the turner", x.end(15), true);
        int turner = x.turner();
        check.due("turner", turner, 0);
        check.due("turned", x.turned(eye, turner, 60), 2);
        check.due("knob 0 then", x.look(eye, 0), 1);
        check.due("odds", x.odds(eye, rule, KnobEye.NONE), 26589);
        check.end();
    }
}
