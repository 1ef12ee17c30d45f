/** Promises 9 to 19: SHOWN CARDS, EYES with WIRES and KNOBS, and how they are turned. */
public final class EyeTest {
    private static final Check CHECK = new Check("EyeTest");
    private static final int NONE = KnobEye.NONE;

    public static void main(String[] args) {
        promise9Card();
        promise10Made();
        promise11Away();
        promise12Eye();
        promise13Wire();
        promise14Knob();
        promise15Stuck();
        promise16Look();
        promise16Near();
        promise17Sees();
        promise18Show();
        promise18FirstLines();
        promise18Facts();
        promise18Ends();
        promise18Falls();
        promise19Turned();
        CHECK.end();
    }

    private static void due(String what, Object got, Object want) {
        CHECK.due(what, got, want);
    }

    /** An object with an eye of one SUM wire of all cells. */
    private static KnobEye oneWire() {
        KnobEye x = new KnobEye();
        x.eye();
        x.wire(0, 65535, 0);
        return x;
    }

    private static void promise9Card() {
        KnobEye x = new KnobEye();
        CHECK.argument("card 65536", () -> x.card(65536, true));
        CHECK.argument("card -1", () -> x.card(-1, true));
        CHECK.argument("card MIN", () -> x.card(Integer.MIN_VALUE, false));
        due("none came", x.count(1), 0);
        for (int n = 0; n < 20; n++) {
            due("card " + n, x.card(n == 0 ? 65535 : n, n % 3 == 0), n);
        }
        due("cards", x.count(1), 20);
        due("yes cards", x.count(2), 7);
        CHECK.unsupported("a 21st", () -> x.card(0, true));
        CHECK.argument("a 21st of no cells", () -> x.card(65536, true));
        due("cards then", x.count(1), 20);
    }

    private static void promise10Made() {
        KnobEye x = new KnobEye();
        Check.rule(x, "c 0");
        CHECK.index("made by rule 1", () -> x.made(0, 1));
        CHECK.index("made by rule -1", () -> x.made(0, -1));
        CHECK.index("made by no rule, of no cells", () -> x.made(65536, 1));
        CHECK.argument("made of 65536", () -> x.made(65536, 0));
        CHECK.argument("made of -1", () -> x.made(-1, 0));
        for (int n = 0; n < 20; n++) {
            due("made " + n, x.made(n, 0), n);
            due("yes cards behind " + n, x.count(2), (n + 1) / 2);
        }
        due("lit is the card's", x.along(0), 20);
        CHECK.unsupported("a 21st", () -> x.made(0, 0));
        CHECK.argument("a 21st of no cells", () -> x.made(-1, 0));
        CHECK.index("a 21st of no rule", () -> x.made(-1, 1));
        due("cards", x.count(1), 20);
    }

    private static void promise11Away() {
        KnobEye x = new KnobEye();
        x.card(1, true);
        x.card(1, true);
        x.card(1, false);
        due("away", x.away(), 2);
        due("the latest went", x.along(0), 2);
        due("cards", x.count(1), 2);
        due("a new one has its number", x.card(0, true), 2);
        due("away again", x.away(), 2);
        due("away", x.away(), 1);
        due("away", x.away(), 0);
        due("away without any", x.away(), NONE);
        due("cards", x.count(1), 0);
        due("the first one", x.card(0, true), 0);
    }

    private static void promise12Eye() {
        KnobEye x = new KnobEye();
        for (int n = 0; n < 3; n++) {
            due("eye", x.eye(), n);
        }
        CHECK.unsupported("a fourth", () -> x.eye());
        due("eyes", x.count(3), 3);
        for (int what = 0; what <= 12; what++) {
            due("a new eye: look " + what, x.look(2, what), 0);
        }
    }

    private static void promise13Wire() {
        KnobEye x = new KnobEye();
        CHECK.index("wire of no eye", () -> x.wire(0, 1, 0));
        CHECK.index("wire of no eye and no cells", () -> x.wire(0, 0, 7));
        x.eye();
        CHECK.index("wire of eye 1", () -> x.wire(1, 1, 0));
        CHECK.index("wire of eye -1", () -> x.wire(-1, 1, 0));
        CHECK.argument("no cells", () -> x.wire(0, 0, 0));
        CHECK.argument("a bit of no cell", () -> x.wire(0, 65537, 0));
        CHECK.argument("below 0", () -> x.wire(0, -1, 0));
        CHECK.argument("kind 3", () -> x.wire(0, 1, 3));
        CHECK.argument("kind -1", () -> x.wire(0, 1, -1));
        for (int n = 0; n < 6; n++) {
            due("wire", x.wire(0, n == 0 ? 65535 : n, n % 3), n);
        }
        CHECK.unsupported("a seventh", () -> x.wire(0, 1, 0));
        CHECK.argument("a seventh of no kind", () -> x.wire(0, 1, 3));
        due("wires", x.look(0, 7), 6);
        x.eye();
        due("of another eye", x.wire(1, 1, 0), 0);
        due("wires in all", x.count(7), 7);
    }

    private static void promise14Knob() {
        KnobEye x = new KnobEye();
        CHECK.index("knob of no eye", () -> x.knob(0, NONE, 0));
        x.eye();
        CHECK.index("knob of no wire", () -> x.knob(0, 0, 0));
        x.wire(0, 1, 0);
        CHECK.index("knob of wire 1", () -> x.knob(0, 1, 0));
        CHECK.index("knob of wire -2", () -> x.knob(0, -2, 0));
        CHECK.index("knob of wire 1 and no number", () -> x.knob(0, 1, 201));
        CHECK.index("knob of eye 1 and no number", () -> x.knob(1, NONE, 9999));
        due("0 stays", x.knob(0, 0, 0), false);
        due("200", x.knob(0, 0, 200), true);
        due("200 stays", x.knob(0, 0, 200), false);
        due("- 200", x.knob(0, 0, -200), true);
        CHECK.argument("201", () -> x.knob(0, 0, 201));
        CHECK.argument("- 201", () -> x.knob(0, 0, -201));
        due("it stands", x.look(0, 0), -200);
        due("the line stays", x.knob(0, NONE, 0), false);
        due("line 2000", x.knob(0, NONE, 2000), true);
        due("line 2000 stays", x.knob(0, NONE, 2000), false);
        due("line - 2000", x.knob(0, NONE, -2000), true);
        CHECK.argument("line 2001", () -> x.knob(0, NONE, 2001));
        CHECK.argument("line - 2001", () -> x.knob(0, NONE, -2001));
        due("the line stands", x.look(0, 6), -2000);
        due("the knob is left", x.look(0, 0), -200);
        x.stuck(0, 127, 0);
        due("what is stuck may be set", x.knob(0, 0, 5), true);
    }

    private static void promise15Stuck() {
        KnobEye x = oneWire();
        Check.turner(x, "turn 1;line 1");
        x.card(1, true);
        CHECK.index("stuck of no eye", () -> { x.stuck(1, 0, 0); return 0; });
        CHECK.index("stuck of no eye, nor falls", () -> { x.stuck(-1, 0, 51); return 0; });
        CHECK.argument("128", () -> { x.stuck(0, 128, 0); return 0; });
        CHECK.argument("below 0", () -> { x.stuck(0, -1, 0); return 0; });
        CHECK.argument("51", () -> { x.stuck(0, 0, 51); return 0; });
        CHECK.argument("falls below 0", () -> { x.stuck(0, 0, -1); return 0; });
        due("none is", x.look(0, 9) + x.look(0, 10), 0);
        x.stuck(0, 127, 50);
        due("stuck", x.look(0, 9), 127);
        due("falls", x.look(0, 10), 50);
        x.stuck(0, 1, 0);
        x.show(0, 0, 0);
        due("a stuck knob", x.look(0, 0), 0);
        due("a free line", x.look(0, 6), -1);
        x.stuck(0, 64, 0);
        x.show(0, 0, 0);
        due("a free knob", x.look(0, 0), 1);
        due("a stuck line", x.look(0, 6), -1);
        x.stuck(0, 2, 0);
        x.wire(0, 1, 0);
        x.show(0, 0, 0);
        due("knob 0 is free", x.look(0, 0), 2);
        due("knob 1, which came later, is stuck", x.look(0, 1), 0);
    }

    private static void promise16Look() {
        KnobEye x = new KnobEye();
        CHECK.index("look of no eye", () -> x.look(0, 0));
        CHECK.index("look of no eye at nothing", () -> x.look(0, 13));
        x.eye();
        CHECK.index("look of eye -1", () -> x.look(-1, 0));
        CHECK.none("look -1", () -> x.look(0, -1));
        CHECK.none("look 13", () -> x.look(0, 13));
        CHECK.none("look MAX", () -> x.look(0, Integer.MAX_VALUE));
        for (int wire = 0; wire < 6; wire++) {
            x.wire(0, 1 << wire, 0);
            x.knob(0, wire, 10 + wire);
            due("a wire that is not there", wire < 5 ? x.look(0, wire + 1) : 0, 0);
        }
        for (int wire = 0; wire < 6; wire++) {
            due("knob", x.look(0, wire), 10 + wire);
        }
        x.knob(0, NONE, 11);
        due("line", x.look(0, 6), 11);
        due("wires", x.look(0, 7), 6);
        // seen: 10, 11, 12, 0; yes are those above 11
        x.card(1, true);
        x.card(2, false);
        x.card(4, true);
        x.card(0, true);
        due("right on", x.look(0, 11), 2);
        Check.turner(x, "");
        x.show(0, 0, 0);
        x.show(0, 3, 0);
        due("shown", x.look(0, 8), 2);
        due("right on, still", x.look(0, 11), 2);
    }

    private static void promise16Near() {
        int[][] sides = {{1, 1}, {0x8000, 1}, {3, 2}, {0x11, 2}, {0x21, 2}, {0x12, 2}, {0x33, 2}, {5, 3}, {0x101, 3}, {0x104, 3},
            {9, 4}, {0x1001, 4}, {0x8001, 4}, {0xFFFF, 4}, {0xC, 2}, {0x6600, 2}, {0x0124, 3}, {0xE000, 3}, {0x0028, 3}};
        for (int[] one : sides) {
            KnobEye x = new KnobEye();
            x.eye();
            x.wire(0, one[0], 0);
            due("near of " + one[0], x.look(0, 12), one[1]);
        }
        KnobEye x = new KnobEye();
        x.eye();
        due("near without wires", x.look(0, 12), 0);
        x.wire(0, 1, 0);
        x.wire(0, 0x8000, 1);
        due("each wire by itself", x.look(0, 12), 1);
        x.wire(0, 7, 2);
        x.wire(0, 0x30, 2);
        due("the widest", x.look(0, 12), 3);
    }

    private static void promise17Sees() {
        KnobEye x = new KnobEye();
        x.eye();
        CHECK.index("sees of no eye", () -> x.sees(1, 0));
        CHECK.index("sees of no eye and no cells", () -> x.sees(-1, 65536));
        CHECK.argument("sees of 65536", () -> x.sees(0, 65536));
        CHECK.argument("sees of -1", () -> x.sees(0, -1));
        due("without wires", x.sees(0, 65535), 0);
        x.wire(0, 0x000F, 0);
        x.wire(0, 0x0005, 1);
        x.wire(0, 0xFFFF, 2);
        x.knob(0, 0, 1);
        x.knob(0, 1, 10);
        x.knob(0, 2, 100);
        int[][] seen = {{0, 0}, {1, 101}, {3, 2}, {5, 12}, {7, 113}, {15, 14}, {0x10, 100}, {0x30, 0}, {65535, 14}, {0xFFFE, 103}};
        for (int[] one : seen) {
            due("sees of " + one[0], x.sees(0, one[0]), one[1]);
        }
        x.knob(0, 0, -200);
        x.knob(0, NONE, 77);
        due("below 0, whatever the line", x.sees(0, 15), -790);
    }

    private static void promise18Show() {
        KnobEye x = oneWire();
        Check.turner(x, "turn 2 if wrong; line 3 if wrong");
        x.card(7, true);
        x.card(1, false);
        CHECK.index("show of no eye", () -> x.show(1, 0, 0));
        CHECK.index("show of no card", () -> x.show(0, 2, 0));
        CHECK.index("show of card -1", () -> x.show(0, -1, 0));
        CHECK.index("show by no turner", () -> x.show(0, 0, 1));
        CHECK.index("show by turner -1", () -> x.show(0, 0, -1));
        due("none was shown", x.look(0, 8), 0);
        for (int n = 1; n < 4; n++) {
            Check.turner(x, "line 1");
        }
        CHECK.index("show by a fifth turner", () -> x.show(0, 0, 4));
        due("0 is not above 0: wrong", x.show(0, 0, 0), true);
        due("up by 2 times 3", x.look(0, 0), 6);
        due("the line down", x.look(0, 6), -3);
        due("right then", x.show(0, 0, 0), false);
        due("the knob stays", x.look(0, 0), 6);
        due("a no card is wrong", x.show(0, 1, 0), true);
        due("down by 2", x.look(0, 0), 4);
        due("the line up", x.look(0, 6), 0);
        due("shown", x.look(0, 8), 3);
        x.knob(0, NONE, 4);
        due("what is on the line is no", x.show(0, 1, 0), false);
    }

    /** Of each knob the first turn that holds; of the line the first line that holds; all by what was there. */
    private static void promise18FirstLines() {
        KnobEye x = new KnobEye();
        x.eye();
        x.wire(0, 3, 0);
        x.wire(0, 1, 0);
        Check.turner(x, "line 7 if not wrong; turn 5 if value > 1; turn 0 if knob > 90; line 4; turn 1; line 9");
        x.card(3, true);
        x.show(0, 0, 0);
        due("the first that holds of knob 0", x.look(0, 0), 10);
        due("and of knob 1", x.look(0, 1), 1);
        due("and of the line", x.look(0, 6), -4);
        x.knob(0, 1, 91);
        x.show(0, 0, 0);
        due("a turn of 0 goes nowhere", x.look(0, 1), 91);
        due("the line by its own", x.look(0, 6), -11);
        KnobEye y = new KnobEye();
        y.eye();
        y.wire(0, 1, 0);
        y.wire(0, 1, 0);
        // far is 0 as the card comes, for both knobs and the line, though the first turns at once
        Check.turner(y, "turn 1 if far < 1; line 1 if far < 1; turn 30; line 30");
        y.card(1, true);
        y.show(0, 0, 0);
        due("knob 1 by what was there", y.look(0, 1), 1);
        due("line by what was there", y.look(0, 6), -1);
        Check.turner(y, "line 2 if value < 1");
        y.show(0, 0, 1);
        due("value of the line is 0", y.look(0, 6), -3);
        due("no turn line, no turning", y.look(0, 0), 1);
    }

    private static void promise18Facts() {
        KnobEye x = oneWire();
        Check.turner(x, "turn 1 if far > 8; turn 2 if far > 7; turn 3");
        Check.turner(x, "turn 1 if knob > 5; turn 2 if yes; turn 3");
        Check.turner(x, "turn 1 if shown > 3; turn 2 if shown > 2; line 5 if knob > 6; line 6 if knob < 7 and yes");
        x.card(1, true);
        x.card(1, false);
        x.knob(0, NONE, 8);
        x.show(0, 0, 0);
        due("far of 0 less 8", x.look(0, 0), 2);
        x.knob(0, 0, 17);
        x.show(0, 0, 0);
        due("far of 17 less 8", x.look(0, 0), 18);
        x.knob(0, 0, 5);
        x.show(0, 0, 0);
        due("far of 5 less 8", x.look(0, 0), 8);
        x.knob(0, 0, -1);
        x.show(0, 0, 0);
        due("far of - 1 less 8", x.look(0, 0), 0);
        x.knob(0, 0, -6);
        x.show(0, 1, 1);
        due("knob without sign", x.look(0, 0), -7);
        x.knob(0, 0, 5);
        x.show(0, 1, 1);
        due("no knob above 5", x.look(0, 0), 2);
        x.show(0, 0, 1);
        due("yes", x.look(0, 0), 4);
        KnobEye y = oneWire();
        Check.turner(y, "turn 1 if shown > 3; turn 2 if shown > 2; line 5 if knob > 6; line 6 if knob < 7 and yes");
        y.card(1, true);
        y.knob(0, NONE, -7);
        int[] knobs = {0, 0, 2, 3, 4};
        int[] lines = {-12, -17, -22, -27, -32};
        for (int n = 0; n < 5; n++) {
            y.show(0, 0, 0);
            due("shown counts this one: " + n, y.look(0, 0), knobs[n]);
            due("knob of the line is its own: " + n, y.look(0, 6), lines[n]);
        }
        y.knob(0, NONE, 6);
        y.show(0, 0, 0);
        due("a line of 6", y.look(0, 6), 0);
    }

    private static void promise18Ends() {
        KnobEye x = oneWire();
        Check.turner(x, "turn 50; line 50");
        x.card(65535, true);
        x.card(65535, false);
        x.knob(0, 0, -190);
        x.knob(0, NONE, 1980);
        x.show(0, 1, 0);
        due("at most to - 200", x.look(0, 0), -200);
        due("at most to 2000", x.look(0, 6), 2000);
        x.knob(0, 0, 190);
        x.knob(0, NONE, -1980);
        x.show(0, 0, 0);
        due("at most to 200", x.look(0, 0), 200);
        due("at most to - 2000", x.look(0, 6), -2000);
        x.show(0, 1, 0);
        due("back by 800", x.look(0, 0), -200);
        due("back by 50", x.look(0, 6), -1950);
    }

    private static void promise18Falls() {
        KnobEye x = new KnobEye();
        x.eye();
        for (int wire = 0; wire < 4; wire++) {
            x.wire(0, 2, 0);
        }
        Check.turner(x, "turn 10 if far > 90");
        x.card(0, false);
        x.card(2, true);
        x.knob(0, 0, 5);
        x.knob(0, 1, -5);
        x.knob(0, 3, 5);
        x.knob(0, NONE, 9);
        x.stuck(0, 8 + 64, 3);
        int[] fallen = {5, 5, 4, 4, 4, 3};
        for (int n = 0; n < 6; n++) {
            x.show(0, 0, 0);
            due("behind each third: " + n, x.look(0, 0), fallen[n]);
            due("nearer to 0 from below: " + n, x.look(0, 1), -fallen[n]);
            due("not beyond 0: " + n, x.look(0, 2), 0);
            due("not what is stuck: " + n, x.look(0, 3), 5);
            due("not the line: " + n, x.look(0, 6), 9);
        }
        x.stuck(0, 0, 1);
        x.knob(0, NONE, 1000);
        x.show(0, 1, 0);
        due("turned ahead of falling", x.look(0, 0), 12);
        due("turned from below 0", x.look(0, 1), 6);
        due("turned from 0", x.look(0, 2), 9);
        due("the line never falls", x.look(0, 6), 1000);
        x.stuck(0, 0, 0);
        x.show(0, 0, 0);
        due("0: never", x.look(0, 0), 12);
        // 8 were shown; falls of 5 come by all that were shown, not by those since they were set
        due("shown till now", x.look(0, 8), 8);
        x.stuck(0, 0, 5);
        x.show(0, 0, 0);
        due("not yet", x.look(0, 0), 12);
        x.show(0, 0, 0);
        due("behind the tenth", x.look(0, 0), 11);
        for (int n = 11; n < 15; n++) {
            x.show(0, 0, 0);
            due("not yet: " + n, x.look(0, 0), 11);
        }
        x.show(0, 0, 0);
        due("behind the fifteenth", x.look(0, 0), 10);
        x.stuck(0, 0, 1);
        x.knob(0, 0, 1);
        x.knob(0, 1, -1);
        x.show(0, 0, 0);
        due("from 1 to 0", x.look(0, 0), 0);
        due("from - 1 to 0", x.look(0, 1), 0);
        x.show(0, 0, 0);
        due("and there it stays", x.look(0, 0) - x.look(0, 1), 0);
    }

    private static void promise19Turned() {
        KnobEye x = oneWire();
        Check.turner(x, "turn 1 if wrong; line 0");
        CHECK.index("turned of no eye", () -> x.turned(1, 0, 1));
        CHECK.index("turned by no turner", () -> x.turned(0, 1, 1));
        CHECK.index("turned by no turner, no rounds", () -> x.turned(0, 1, 0));
        CHECK.argument("0 rounds", () -> x.turned(0, 0, 0));
        CHECK.argument("61 rounds", () -> x.turned(0, 0, 61));
        CHECK.argument("- 1 rounds", () -> x.turned(0, 0, -1));
        due("without cards", x.turned(0, 0, 60), 1);
        due("nothing was shown", x.look(0, 8), 0);
        x.card(1, true);
        due("a round with a wrong one, spent", x.turned(0, 0, 1), NONE);
        due("the eye is as it is then", x.look(0, 0), 1);
        due("a round without", x.turned(0, 0, 1), 1);
        x.knob(0, 0, -3);
        // wrong at - 3, - 2, - 1 and 0, right in the fifth round
        due("four rounds, spent", x.turned(0, 0, 4), NONE);
        due("and one", x.turned(0, 0, 60), 1);
        x.knob(0, 0, -3);
        due("five rounds", x.turned(0, 0, 5), 5);
        due("shown", x.look(0, 8), 12);
        // by numbers: the no card turns the knob down to 0 first, then the yes card up again, for ever
        x.away();
        x.card(1, false);
        x.card(1, true);
        due("never", x.turned(0, 0, 60), NONE);
        due("the last was turned up", x.look(0, 0), 1);
        due("all were shown", x.look(0, 8), 132);
        // wrong is asked as each is shown: the line that the first card moves makes the second right
        KnobEye y = oneWire();
        Check.turner(y, "line 1 if wrong");
        y.card(0, true);
        y.card(0, true);
        due("one wrong round, one right", y.turned(0, 0, 9), 2);
        due("one move", y.look(0, 6), -1);
    }
}
