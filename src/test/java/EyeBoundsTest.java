/** The boundary sentences of promises 9 to 19, one test each: just inside, just outside, empty, full, refused. */
public final class EyeBoundsTest {
    private static final Check CHECK = new Check("EyeBoundsTest");
    private static final int NONE = KnobEye.NONE;

    public static void main(String[] args) {
        cardOfAllBits();
        cardsAreTwenty();
        madeAreTwenty();
        madeAtTheEdgeOfItsRule();
        awayWithoutAny();
        awayTheLatest();
        awayOfTwenty();
        eyesAreThree();
        wiresAreSixToEachEye();
        wireOfSomeCells();
        wireOfThreeKinds();
        knobTo200();
        lineTo2000();
        knobWhetherOtherwise();
        stuckBits0To6();
        stuckEachBit();
        fallsTo50();
        fallsBehindEachSoMany();
        fallsNeverBy0();
        fallsNotBeyond0();
        fallsNotWhatIsStuck();
        fallsBehindTheTurning();
        lookWithoutTheWire();
        lookAtNothing();
        lookAtRightCards();
        nearOfEachWire();
        seesAtTheEnds();
        saysAboveItsLine();
        valuesOfEachKind();
        showOfNoCard();
        showToTheEnds();
        showNotBeyondTheEnds();
        showLineToTheEnds();
        showByValue0();
        showByWhatWasThere();
        showByFarWithoutSign();
        showCountsShown();
        turnedWithoutCards();
        turnedBy60Rounds();
        turnedBeyond60Rounds();
        turnedByOneRound();
        turnedOfTwentyCards();
        CHECK.end();
    }

    private static void due(String what, Object got, Object want) {
        CHECK.due(what, got, want);
    }

    /** An eye of one SUM wire of these cells, and a turner. */
    private static KnobEye eye(int cells, String turner) {
        KnobEye x = new KnobEye();
        x.eye();
        x.wire(0, cells, 0);
        Check.turner(x, turner);
        return x;
    }

    // ---- promises 9 to 11

    private static void cardOfAllBits() {
        KnobEye x = new KnobEye();
        due("no cell lit", x.card(0, true), 0);
        due("all lit", x.card(65535, true), 1);
        for (int lit : new int[] {65536, 131071, Integer.MAX_VALUE, -1, Integer.MIN_VALUE}) {
            CHECK.argument("card " + lit, () -> x.card(lit, true));
        }
        due("two", x.count(1), 2);
        for (int cell = 0; cell < 16; cell++) {
            due("one has it lit", x.along(cell), 1);
        }
    }

    private static void cardsAreTwenty() {
        KnobEye x = new KnobEye();
        for (int n = 0; n < 20; n++) {
            due("card", x.card(n, n % 2 == 0), n);
            due("cards", x.count(1), n + 1);
        }
        CHECK.unsupported("a 21st", () -> x.card(0, true));
        CHECK.argument("a 21st of no cells", () -> x.card(65536, true));
        due("twenty", x.count(1), 20);
        due("as they were", x.count(2), 10);
        due("lit as they were", x.along(0), 0);
        due("one away", x.away(), 19);
        due("one more", x.card(1, true), 19);
        due("its lit", x.along(0), 1);
        CHECK.unsupported("a 21st again", () -> x.card(0, true));
    }

    private static void madeAreTwenty() {
        KnobEye x = new KnobEye();
        Check.rule(x, "c 0");
        for (int n = 0; n < 20; n++) {
            due("made", n % 2 == 0 ? x.made(n, 0) : x.card(n, false), n);
        }
        CHECK.unsupported("a 21st", () -> x.made(1, 0));
        CHECK.argument("a 21st of no cells", () -> x.made(65536, 0));
        CHECK.index("a 21st by no rule", () -> x.made(65536, 1));
        due("twenty", x.count(1), 20);
        due("none is yes", x.count(2), 0);
        x.away();
        due("one more", x.made(1, 0), 19);
        due("it is yes", x.count(2), 1);
    }

    private static void madeAtTheEdgeOfItsRule() {
        KnobEye x = new KnobEye();
        Check.rule(x, "lit > 15");
        Check.rule(x, "lit < 1");
        x.made(65535, 0);
        due("all lit", x.count(2), 1);
        x.made(65534, 0);
        due("all but one", x.count(2), 1);
        x.made(0, 1);
        due("none", x.count(2), 2);
        x.made(32768, 1);
        due("one", x.count(2), 2);
        CHECK.argument("beyond", () -> x.made(65536, 0));
        CHECK.argument("below", () -> x.made(-1, 1));
        CHECK.index("by rule 2", () -> x.made(0, 2));
        CHECK.index("by rule -1", () -> x.made(0, NONE));
        due("four", x.count(1), 4);
    }

    private static void awayWithoutAny() {
        KnobEye x = new KnobEye();
        due("of none", x.away(), NONE);
        due("again", x.away(), NONE);
        due("cards", x.count(1), 0);
        due("the first then", x.card(5, true), 0);
        due("it goes", x.away(), 0);
        due("of none", x.away(), NONE);
    }

    private static void awayTheLatest() {
        KnobEye x = new KnobEye();
        x.card(1, true);
        x.card(2, false);
        due("the second", x.away(), 1);
        due("the first stays", x.along(0), 1);
        due("it is yes", x.count(2), 1);
        due("a new second", x.card(3, true), 1);
        due("it counts", x.along(0), 2);
    }

    private static void awayOfTwenty() {
        KnobEye x = new KnobEye();
        for (int n = 0; n < 20; n++) {
            x.card(n, true);
        }
        for (int n = 19; n >= 0; n--) {
            due("away", x.away(), n);
            due("so many stay", x.count(1), n);
        }
        due("none stays", x.away(), NONE);
    }

    // ---- promises 12 and 13

    private static void eyesAreThree() {
        KnobEye x = new KnobEye();
        for (int n = 0; n < 3; n++) {
            CHECK.index("not yet", () -> x.look(x.count(3), 6));
            due("eye", x.eye(), n);
            due("it is new", x.look(n, 6), 0);
        }
        x.knob(2, NONE, 7);
        CHECK.unsupported("a fourth", () -> x.eye());
        CHECK.unsupported("again", () -> x.eye());
        CHECK.index("look at a fourth", () -> x.look(3, 6));
        due("three", x.count(3), 3);
        due("the third is as it was", x.look(2, 6), 7);
    }

    private static void wiresAreSixToEachEye() {
        KnobEye x = new KnobEye();
        x.eye();
        x.eye();
        x.eye();
        for (int eye = 0; eye < 3; eye++) {
            for (int n = 0; n < 6; n++) {
                due("wire", x.wire(eye, 1 << n, 0), n);
                due("wires", x.look(eye, 7), n + 1);
            }
            int its = eye;
            CHECK.unsupported("a seventh", () -> x.wire(its, 1, 0));
            CHECK.argument("a seventh of no cells", () -> x.wire(its, 0, 0));
            CHECK.argument("a seventh of no kind", () -> x.wire(its, 1, 3));
            CHECK.index("of a fourth eye", () -> x.wire(3, 1, 0));
            due("six", x.look(eye, 7), 6);
            due("knob 5 is there", x.knob(eye, 5, 1), true);
            CHECK.index("knob 6 is not", () -> x.knob(its, 6, 1));
        }
        due("eighteen", x.count(7), 18);
        due("sees by the sixth", x.sees(2, 32), 1);
    }

    private static void wireOfSomeCells() {
        KnobEye x = new KnobEye();
        x.eye();
        CHECK.argument("none", () -> x.wire(0, 0, 0));
        CHECK.argument("a 17th", () -> x.wire(0, 65536, 0));
        CHECK.argument("a 17th too", () -> x.wire(0, 65537, 0));
        CHECK.argument("the sign", () -> x.wire(0, Integer.MIN_VALUE, 0));
        CHECK.argument("all bits", () -> x.wire(0, -1, 0));
        due("no wire came", x.look(0, 7), 0);
        due("the first cell", x.wire(0, 1, 0), 0);
        due("the last", x.wire(0, 32768, 0), 1);
        due("all", x.wire(0, 65535, 0), 2);
        due("the first again", x.wire(0, 1, 0), 3);
    }

    private static void wireOfThreeKinds() {
        KnobEye x = new KnobEye();
        x.eye();
        CHECK.argument("kind -1", () -> x.wire(0, 7, -1));
        CHECK.argument("kind 3", () -> x.wire(0, 7, 3));
        due("no wire came", x.look(0, 7), 0);
        for (int kind = 0; kind < 3; kind++) {
            due("kind " + kind, x.wire(0, 7, kind), kind);
            due("its knob is 0", x.look(0, kind), 0);
        }
    }

    // ---- promises 14 and 15

    private static void knobTo200() {
        KnobEye x = eye(1, "");
        for (int n : new int[] {200, -200, 199, -199, 0, 1, -1}) {
            due("knob " + n, x.knob(0, 0, n), true);
            due("it is " + n, x.look(0, 0), n);
        }
        for (int n : new int[] {201, -201, 2000, -2000, Integer.MAX_VALUE, Integer.MIN_VALUE}) {
            CHECK.argument("knob " + n, () -> x.knob(0, 0, n));
            CHECK.index("knob 1 " + n, () -> x.knob(0, 1, n));
            due("it stays behind " + n, x.look(0, 0), -1);
        }
        due("the line too", x.look(0, 6), 0);
    }

    private static void lineTo2000() {
        KnobEye x = new KnobEye();
        x.eye();
        for (int n : new int[] {2000, -2000, 1999, -1999, 201, -201, 0, 1, -1}) {
            due("line " + n, x.knob(0, NONE, n), true);
            due("it is " + n, x.look(0, 6), n);
        }
        for (int n : new int[] {2001, -2001, Integer.MAX_VALUE, Integer.MIN_VALUE}) {
            CHECK.argument("line " + n, () -> x.knob(0, NONE, n));
            CHECK.index("line of another " + n, () -> x.knob(1, NONE, n));
            due("it stays behind " + n, x.look(0, 6), -1);
        }
        CHECK.index("no wire", () -> x.knob(0, 0, 1));
        CHECK.index("a wire below NONE", () -> x.knob(0, -2, 1));
    }

    private static void knobWhetherOtherwise() {
        KnobEye x = eye(1, "");
        due("0 as at first", x.knob(0, 0, 0), false);
        due("the line as at first", x.knob(0, NONE, 0), false);
        due("to 200", x.knob(0, 0, 200), true);
        due("200 as it is", x.knob(0, 0, 200), false);
        CHECK.argument("to 201", () -> x.knob(0, 0, 201));
        due("200 still", x.knob(0, 0, 200), false);
        due("to - 2000", x.knob(0, NONE, -2000), true);
        CHECK.argument("to - 2001", () -> x.knob(0, NONE, -2001));
        due("- 2000 still", x.knob(0, NONE, -2000), false);
    }

    private static Object stuck(KnobEye x, int knobs, int falls) {
        x.stuck(0, knobs, falls);
        return "done";
    }

    private static void stuckBits0To6() {
        KnobEye x = eye(1, "");
        due("0 and 0 at first", x.look(0, 9) + x.look(0, 10), 0);
        for (int knobs : new int[] {127, 64, 1, 0}) {
            x.stuck(0, knobs, 3);
            due("stuck", x.look(0, 9), knobs);
        }
        x.stuck(0, 126, 3);
        for (int knobs : new int[] {128, 255, 1 << 30, Integer.MAX_VALUE, -1, Integer.MIN_VALUE}) {
            CHECK.argument("stuck " + knobs, () -> stuck(x, knobs, 5));
            due("it stays", x.look(0, 9), 126);
            due("the falls too", x.look(0, 10), 3);
        }
    }

    /** Bit 0 to 5 a KNOB, bit 6 the LINE; each alone. */
    private static void stuckEachBit() {
        KnobEye x = new KnobEye();
        x.eye();
        for (int wire = 0; wire < 6; wire++) {
            x.wire(0, 1, 0);
        }
        Check.turner(x, "turn 1; line 1");
        x.card(1, true);
        for (int bit = 0; bit < 7; bit++) {
            for (int wire = 0; wire < 6; wire++) {
                x.knob(0, wire, 10);
            }
            x.knob(0, NONE, 10);
            x.stuck(0, 1 << bit, 0);
            x.show(0, 0, 0);
            for (int wire = 0; wire < 6; wire++) {
                due("knob " + wire + " by bit " + bit, x.look(0, wire), wire == bit ? 10 : 11);
            }
            due("line by bit " + bit, x.look(0, 6), bit == 6 ? 10 : 9);
        }
    }

    private static void fallsTo50() {
        KnobEye x = eye(1, "");
        for (int falls : new int[] {50, 49, 1, 0}) {
            x.stuck(0, 1, falls);
            due("falls", x.look(0, 10), falls);
        }
        x.stuck(0, 1, 49);
        for (int falls : new int[] {51, 100, Integer.MAX_VALUE, -1, Integer.MIN_VALUE}) {
            CHECK.argument("falls " + falls, () -> stuck(x, 2, falls));
            due("it stays", x.look(0, 10), 49);
            due("what is stuck too", x.look(0, 9), 1);
        }
    }

    private static void fallsBehindEachSoMany() {
        KnobEye x = eye(1, "");
        x.card(0, false);
        x.knob(0, 0, 9);
        x.stuck(0, 0, 50);
        for (int n = 1; n <= 101; n++) {
            x.show(0, 0, 0);
            due("behind " + n, x.look(0, 0), 9 - n / 50);
        }
        x.stuck(0, 0, 1);
        x.show(0, 0, 0);
        due("behind each", x.look(0, 0), 6);
        x.show(0, 0, 0);
        due("behind each one", x.look(0, 0), 5);
    }

    private static void fallsNeverBy0() {
        KnobEye x = eye(1, "");
        x.card(0, false);
        x.knob(0, 0, 9);
        x.stuck(0, 0, 0);
        for (int n = 0; n < 3; n++) {
            x.show(0, 0, 0);
        }
        x.turned(0, 0, 60);
        due("never", x.look(0, 0), 9);
    }

    private static void fallsNotBeyond0() {
        KnobEye x = eye(1, "");
        x.wire(0, 1, 0);
        x.wire(0, 1, 0);
        x.card(0, false);
        x.knob(0, 0, 2);
        x.knob(0, 1, -2);
        x.knob(0, NONE, 2);
        x.stuck(0, 0, 1);
        int[] knobs = {1, 0, 0, 0};
        for (int n = 0; n < 4; n++) {
            x.show(0, 0, 0);
            due("down", x.look(0, 0), knobs[n]);
            due("up", x.look(0, 1), -knobs[n]);
            due("0 stays", x.look(0, 2), 0);
            due("the line stays", x.look(0, 6), 2);
        }
    }

    private static void fallsNotWhatIsStuck() {
        KnobEye x = new KnobEye();
        x.eye();
        Check.turner(x, "");
        x.card(0, false);
        for (int wire = 0; wire < 6; wire++) {
            x.wire(0, 1, 0);
            x.knob(0, wire, 5);
        }
        x.knob(0, NONE, 5);
        x.stuck(0, 0b100001, 1);
        x.show(0, 0, 0);
        int[] knobs = {5, 4, 4, 4, 4, 5, 5};
        for (int what = 0; what < 7; what++) {
            due("look " + what, x.look(0, what), knobs[what]);
        }
        x.stuck(0, 0b1111111, 1);
        x.show(0, 0, 0);
        for (int what = 0; what < 7; what++) {
            due("all stuck: look " + what, x.look(0, what), knobs[what]);
        }
    }

    private static void fallsBehindTheTurning() {
        KnobEye x = eye(1, "turn 50");
        x.card(1, true);
        x.card(1, false);
        x.stuck(0, 0, 1);
        x.knob(0, 0, 180);
        x.show(0, 0, 0);
        due("to 200, then 1 nearer to 0", x.look(0, 0), 199);
        x.knob(0, 0, -50);
        x.show(0, 0, 0);
        due("to 0, and there it stays", x.look(0, 0), 0);
        x.knob(0, 0, -180);
        x.show(0, 1, 0);
        due("to - 200, then 1 nearer to 0", x.look(0, 0), -199);
    }

    // ---- promises 16 and 17

    private static void lookWithoutTheWire() {
        KnobEye x = new KnobEye();
        x.eye();
        for (int wire = 0; wire < 6; wire++) {
            due("without it", x.look(0, wire), 0);
        }
        for (int wire = 0; wire < 6; wire++) {
            x.wire(0, 1, 0);
            x.knob(0, wire, 7);
            for (int other = 0; other < 6; other++) {
                due("wire " + other + " of " + (wire + 1), x.look(0, other), other <= wire ? 7 : 0);
            }
        }
    }

    private static void lookAtNothing() {
        KnobEye x = new KnobEye();
        CHECK.index("of no eye", () -> x.look(0, 12));
        CHECK.index("of no eye, at nothing", () -> x.look(0, 13));
        x.eye();
        due("the last what", x.look(0, 12), 0);
        due("the first what", x.look(0, 0), 0);
        for (int what : new int[] {13, -1, 100, Integer.MAX_VALUE, Integer.MIN_VALUE}) {
            CHECK.none("look at " + what, () -> x.look(0, what));
            CHECK.index("look at " + what + " of no eye", () -> x.look(1, what));
        }
    }

    private static void lookAtRightCards() {
        KnobEye x = eye(1, "");
        x.knob(0, 0, 1);
        due("without cards", x.look(0, 11), 0);
        for (int n = 0; n < 20; n++) {
            x.card(n % 2, n % 2 == 1);
            due("right on all", x.look(0, 11), n + 1);
        }
        x.knob(0, NONE, 1);
        due("right on the no cards", x.look(0, 11), 10);
        x.knob(0, NONE, -1);
        due("right on the yes cards", x.look(0, 11), 10);
        x.knob(0, 0, -2);
        due("right on none", x.look(0, 11), 0);
    }

    private static void nearOfEachWire() {
        KnobEye x = new KnobEye();
        x.eye();
        due("without wires", x.look(0, 12), 0);
        int[] cells = {0x8000, 0x0660, 0x0111, 0x1008, 0x0001, 0xFFFF};
        int[] sides = {1, 2, 3, 4, 4, 4};
        for (int n = 0; n < 6; n++) {
            x.wire(0, cells[n], n % 3);
            due("with wire " + n, x.look(0, 12), sides[n]);
        }
        for (int first = 0; first < 16; first++) {
            for (int second = 0; second < 16; second++) {
                KnobEye y = new KnobEye();
                y.eye();
                y.wire(0, 1 << first | 1 << second, 0);
                int side = 1 + Math.max(Math.abs(first % 4 - second % 4), Math.abs(first / 4 - second / 4));
                due("near of " + first + " and " + second, y.look(0, 12), side);
            }
        }
    }

    private static void seesAtTheEnds() {
        KnobEye x = new KnobEye();
        x.eye();
        due("without wires", x.sees(0, 65535), 0);
        for (int wire = 0; wire < 6; wire++) {
            x.wire(0, 65535, 0);
            x.knob(0, wire, 200);
        }
        due("the most", x.sees(0, 65535), 19200);
        due("of none lit", x.sees(0, 0), 0);
        due("of the last", x.sees(0, 32768), 1200);
        for (int wire = 0; wire < 6; wire++) {
            x.knob(0, wire, -200);
        }
        due("the least", x.sees(0, 65535), -19200);
        CHECK.argument("65536", () -> x.sees(0, 65536));
        CHECK.argument("- 1", () -> x.sees(0, -1));
        CHECK.index("of no eye", () -> x.sees(1, 65536));
    }

    private static void saysAboveItsLine() {
        KnobEye x = eye(1, "");
        x.card(1, true);
        x.knob(0, 0, 7);
        int[] lines = {6, 7, 8, 2000, -2000};
        boolean[] yes = {true, false, false, false, true};
        for (int n = 0; n < lines.length; n++) {
            x.knob(0, NONE, lines[n]);
            due("7 above " + lines[n], x.together(1, 1), yes[n]);
            due("right on it", x.look(0, 11), yes[n] ? 1 : 0);
            due("wrong", x.show(0, 0, 0), !yes[n]);
        }
        KnobEye y = new KnobEye();
        y.eye();
        due("0 is not above 0", y.together(1, 0), false);
        y.knob(0, NONE, -1);
        due("0 is above - 1", y.together(1, 0), true);
    }

    private static void valuesOfEachKind() {
        KnobEye x = new KnobEye();
        x.eye();
        x.wire(0, 0x8007, 0);
        x.wire(0, 0x8007, 1);
        x.wire(0, 0x8007, 2);
        x.knob(0, 0, 1);
        x.knob(0, 1, 10);
        x.knob(0, 2, 100);
        int[][] seen = {{0, 0}, {1, 101}, {0x8000, 101}, {3, 2}, {7, 103}, {0x8006, 103}, {0x8007, 14}, {0xFFFF, 14}, {0x7FF8, 0}};
        for (int[] one : seen) {
            due("sees of " + one[0], x.sees(0, one[0]), one[1]);
        }
        KnobEye y = new KnobEye();
        y.eye();
        y.wire(0, 0x10, 1);
        y.wire(0, 0x10, 2);
        y.knob(0, 0, 1);
        y.knob(0, 1, 2);
        due("one cell alone", y.sees(0, 0x10), 3);
        due("it is not lit", y.sees(0, 0xFFEF), 0);
    }

    // ---- promise 18

    private static void showOfNoCard() {
        KnobEye x = eye(1, "turn 1");
        CHECK.index("without cards", () -> x.show(0, 0, 0));
        x.card(1, true);
        CHECK.index("card 1 of one", () -> x.show(0, 1, 0));
        CHECK.index("card -1", () -> x.show(0, -1, 0));
        CHECK.index("turner 1 of one", () -> x.show(0, 0, 1));
        CHECK.index("eye 1 of one", () -> x.show(1, 0, 0));
        due("nothing was shown", x.look(0, 8), 0);
        due("nor turned", x.look(0, 0), 0);
        for (int n = 1; n < 20; n++) {
            x.card(1, true);
        }
        due("the twentieth", x.show(0, 19, 0), true);
        CHECK.index("a 21st", () -> x.show(0, 20, 0));
        x.away();
        CHECK.index("one that was put away", () -> x.show(0, 19, 0));
        due("one was shown", x.look(0, 8), 1);
        due("and turned by", x.look(0, 0), 1);
    }

    private static void showToTheEnds() {
        KnobEye x = eye(1, "turn 1");
        x.card(1, true);
        x.card(1, false);
        x.knob(0, 0, 198);
        for (int knob : new int[] {199, 200, 200}) {
            x.show(0, 0, 0);
            due("up to 200", x.look(0, 0), knob);
        }
        x.show(0, 1, 0);
        due("and down from there", x.look(0, 0), 199);
        x.knob(0, 0, -198);
        for (int knob : new int[] {-199, -200, -200}) {
            x.show(0, 1, 0);
            due("down to - 200", x.look(0, 0), knob);
        }
        x.show(0, 0, 0);
        due("and up from there", x.look(0, 0), -199);
    }

    private static void showNotBeyondTheEnds() {
        KnobEye x = eye(65535, "turn 50");
        x.card(65535, true);
        x.card(65535, false);
        x.knob(0, 0, -200);
        x.show(0, 0, 0);
        due("by 800 at once", x.look(0, 0), 200);
        x.show(0, 1, 0);
        due("and back", x.look(0, 0), -200);
    }

    private static void showLineToTheEnds() {
        KnobEye x = eye(1, "line 1");
        Check.turner(x, "line 50");
        x.card(0, true);
        x.card(0, false);
        x.knob(0, NONE, -1998);
        for (int line : new int[] {-1999, -2000, -2000}) {
            x.show(0, 0, 0);
            due("down to - 2000", x.look(0, 6), line);
        }
        x.show(0, 1, 0);
        due("and up from there", x.look(0, 6), -1999);
        x.knob(0, NONE, 1998);
        for (int line : new int[] {1999, 2000, 2000}) {
            x.show(0, 1, 0);
            due("up to 2000", x.look(0, 6), line);
        }
        x.show(0, 0, 0);
        due("and down from there", x.look(0, 6), 1999);
        x.show(0, 1, 1);
        due("by 50, not beyond 2000", x.look(0, 6), 2000);
        x.knob(0, NONE, -1951);
        x.show(0, 0, 1);
        due("by 50, not beyond - 2000", x.look(0, 6), -2000);
    }

    private static void showByValue0() {
        KnobEye x = eye(6, "turn 50 if value < 1; turn 3 if value < 2; turn 1; line 2 if value < 1; line 9");
        x.card(9, true);
        x.card(2, true);
        x.card(6, true);
        x.show(0, 0, 0);
        due("50 times 0", x.look(0, 0), 0);
        due("the line's value is 0", x.look(0, 6), -2);
        x.show(0, 1, 0);
        due("3 times 1", x.look(0, 0), 3);
        x.show(0, 2, 0);
        due("1 times 2", x.look(0, 0), 5);
        due("the line's value stays 0", x.look(0, 6), -6);
    }

    private static void showByWhatWasThere() {
        KnobEye x = eye(1, "turn 7 if wrong and far < 1; line 5 if wrong and far < 1; turn 1; line 1");
        x.wire(0, 1, 0);
        x.card(1, true);
        due("0 on a line of 0", x.show(0, 0, 0), true);
        due("the first knob", x.look(0, 0), 7);
        due("the second, as the first was", x.look(0, 1), 7);
        due("the line, as they were", x.look(0, 6), -5);
        due("right then", x.show(0, 0, 0), false);
        due("by the later LINES", x.look(0, 0), 8);
        due("of each", x.look(0, 6), -6);
        KnobEye y = eye(1, "turn 9 if knob > 199; turn 1; line 9 if knob > 1999; line 1");
        y.card(1, false);
        y.knob(0, 0, -200);
        y.knob(0, NONE, -2000);
        y.show(0, 0, 0);
        due("a knob of - 200 is 200 without sign", y.look(0, 0), -200);
        due("a line of - 2000 is 2000 without sign", y.look(0, 6), -1991);
        y.knob(0, 0, 200);
        y.knob(0, NONE, 1999);
        y.show(0, 0, 0);
        due("200", y.look(0, 0), 191);
        due("1999", y.look(0, 6), 2000);
    }

    private static void showByFarWithoutSign() {
        KnobEye x = eye(1, "line 1 if far < 1; line 2 if far > 2199; line 3 if far < 2 and far > 0");
        x.card(1, false);
        int[][] ends = {{5, 5, 1}, {5, 6, 3}, {5, 4, 3}, {-5, -5, 1}, {-5, 5, 0}, {200, -2000, 2}, {199, -2000, 0}, {-200, 1998, 0}};
        for (int[] one : ends) {
            x.knob(0, 0, one[0]);
            x.knob(0, NONE, one[1]);
            x.show(0, 0, 0);
            due("it SEES " + one[0] + " by a LINE of " + one[1], x.look(0, 6) - one[1], one[2]);
        }
        x.knob(0, 0, -200);
        x.knob(0, NONE, 2000);
        Check.turner(x, "turn 1 if far > 2199 and far < 2201");
        x.card(1, true);
        x.show(0, 1, 1);
        due("2200 from below", x.look(0, 0), -199);
    }

    private static void showCountsShown() {
        KnobEye x = eye(1, "turn 1 if shown > 1 and shown < 3; turn 10 if shown < 2");
        x.card(1, true);
        due("none yet", x.look(0, 8), 0);
        int[] knobs = {10, 11, 11};
        for (int n = 0; n < 3; n++) {
            x.show(0, 0, 0);
            due("shown", x.look(0, 8), n + 1);
            due("this one counts", x.look(0, 0), knobs[n]);
        }
        x.eye();
        due("to another none", x.look(1, 8), 0);
        due("wrong without wires", x.show(1, 0, 0), true);
        due("to it one", x.look(1, 8), 1);
        due("to the first three", x.look(0, 8), 3);
    }

    // ---- promise 19

    private static void turnedWithoutCards() {
        KnobEye x = eye(1, "turn 1; line 1");
        due("one round", x.turned(0, 0, 1), 1);
        due("of sixty", x.turned(0, 0, 60), 1);
        due("nothing was shown", x.look(0, 8), 0);
        due("nor turned", x.look(0, 0) + x.look(0, 6), 0);
        CHECK.argument("0 rounds all the same", () -> x.turned(0, 0, 0));
        CHECK.argument("61 rounds all the same", () -> x.turned(0, 0, 61));
        CHECK.index("by no turner", () -> x.turned(0, 1, 61));
        CHECK.index("of no eye", () -> x.turned(1, 0, 1));
    }

    private static void turnedBy60Rounds() {
        KnobEye x = eye(1, "turn 1 if wrong");
        x.card(1, true);
        x.knob(0, 0, -58);
        due("wrong in 59, right in the sixtieth", x.turned(0, 0, 60), 60);
        due("shown", x.look(0, 8), 60);
        due("it is as it is then", x.look(0, 0), 1);
        x.knob(0, 0, -58);
        due("59 are not enough", x.turned(0, 0, 59), NONE);
        due("but turned all the same", x.look(0, 0), 1);
        due("and shown", x.look(0, 8), 119);
    }

    private static void turnedBeyond60Rounds() {
        KnobEye x = eye(1, "turn 1 if wrong");
        x.card(1, true);
        x.knob(0, 0, -59);
        due("wrong in all sixty", x.turned(0, 0, 60), NONE);
        due("the last one turned it up to 1", x.look(0, 0), 1);
        due("shown", x.look(0, 8), 60);
        CHECK.argument("61", () -> x.turned(0, 0, 61));
        CHECK.argument("MAX", () -> x.turned(0, 0, Integer.MAX_VALUE));
        due("shown still", x.look(0, 8), 60);
        due("right now", x.turned(0, 0, 60), 1);
    }

    private static void turnedByOneRound() {
        KnobEye x = eye(1, "turn 1 if wrong");
        x.card(1, true);
        CHECK.argument("0", () -> x.turned(0, 0, 0));
        CHECK.argument("- 1", () -> x.turned(0, 0, -1));
        due("nothing was shown", x.look(0, 8), 0);
        due("spent", x.turned(0, 0, 1), NONE);
        due("one was shown", x.look(0, 8), 1);
        due("one is enough", x.turned(0, 0, 1), 1);
        due("and another", x.look(0, 8), 2);
    }

    private static void turnedOfTwentyCards() {
        KnobEye x = eye(1, "line 1 if wrong");
        for (int n = 0; n < 20; n++) {
            x.card(0, n == 19);
        }
        due("wrong on the last alone: 1 down, then all others wrong: 1 up", x.turned(0, 0, 60), NONE);
        due("shown", x.look(0, 8), 1200);
        due("the last is shown last", x.look(0, 6), -1);
        x.away();
        due("without it", x.turned(0, 0, 60), 2);
        due("shown", x.look(0, 8), 1238);
        due("one up", x.look(0, 6), 0);
    }
}
