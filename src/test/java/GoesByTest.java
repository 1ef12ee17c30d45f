/** Promises 26 to 40: what an EYE goes by and bears, orders, several EYES, READ, CLAIMS, THE IMAGE and counts. */
public final class GoesByTest {
    private static final Check CHECK = new Check("GoesByTest");
    private static final int NONE = KnobEye.NONE;

    public static void main(String[] args) {
        promise26Covered();
        promise27GoesBy();
        promise28Along();
        promise29Cloud();
        promise30Mend();
        promise31Bear();
        promise32Swapped();
        promise33Soonest();
        promise33SoonestOrders();
        promise34Together();
        promise35Layer();
        promise36Read();
        promise36Next();
        promise37Holds();
        promise38And39Image();
        promise40Count();
        CHECK.end();
    }

    private static void due(String what, Object got, Object want) {
        CHECK.due(what, got, want);
    }

    /** An eye of SUM wires: cells and knob of each. */
    private static void addEye(KnobEye x, int line, int... wires) {
        int eye = x.eye();
        for (int i = 0; i < wires.length; i += 2) {
            int wire = x.wire(eye, wires[i], 0);
            x.knob(eye, wire, wires[i + 1]);
        }
        x.knob(eye, NONE, line);
    }

    private static KnobEye eye(int line, int... wires) {
        KnobEye x = new KnobEye();
        addEye(x, line, wires);
        return x;
    }

    private static void promise26Covered() {
        KnobEye x = eye(0, 3, 1, 4, -1);
        CHECK.index("covered of no eye", () -> x.covered(1, 0));
        CHECK.index("covered cell 16", () -> x.covered(0, 16));
        CHECK.index("covered cell -1", () -> x.covered(0, -1));
        due("without cards", x.covered(0, 0), 0);
        x.card(1, true);
        x.card(1, false);
        x.card(2, true);
        x.card(3, true);
        x.card(0, true);
        due("whether right or not", x.covered(0, 0), 2);
        due("cell 1", x.covered(0, 1), 1);
        due("cell 2", x.covered(0, 2), 0);
        x.card(5, true);
        due("from no to yes", x.covered(0, 2), 1);
        x.card(7, true);
        due("cell 0 of 7 too", x.covered(0, 0), 3);
        due("cell 1 of 7 too", x.covered(0, 1), 2);
        due("cell 15", x.covered(0, 15), 0);
        due("the cards stay", x.along(0), 4);
    }

    private static void promise27GoesBy() {
        KnobEye x = eye(0, 0xF000, 1);
        CHECK.index("goesBy of no eye", () -> x.goesBy(1));
        CHECK.index("goesBy of eye -1", () -> x.goesBy(-1));
        due("without cards", x.goesBy(0), NONE);
        x.card(0xF000, true);
        due("by none any", x.goesBy(0), NONE);
        x.card(0x8000, true);
        due("the last one", x.goesBy(0), 15);
        x.card(0x2000, true);
        due("of several the least", x.goesBy(0), 13);
        x.card(0x8000, false);
        due("that by which most", x.goesBy(0), 15);
        x.card(0x1000, false);
        x.card(0x1000, false);
        due("of those the least", x.goesBy(0), 12);
        KnobEye y = eye(0, 3, 1);
        y.card(1, false);
        due("the first", y.goesBy(0), 0);
        y.card(2, false);
        y.card(2, false);
        due("the second", y.goesBy(0), 1);
    }

    private static void promise28Along() {
        KnobEye x = new KnobEye();
        CHECK.index("along 16", () -> x.along(16));
        CHECK.index("along -1", () -> x.along(-1));
        x.card(0x8001, true);
        x.card(0x8000, false);
        x.card(0, false);
        x.card(0, true);
        due("cell 0", x.along(0), 3);
        due("cell 15", x.along(15), 2);
        due("cell 7", x.along(7), 2);
        x.card(1, true);
        due("cell 0 then", x.along(0), 4);
        due("cell 15 then", x.along(15), 2);
    }

    private static void promise29Cloud() {
        KnobEye x = new KnobEye();
        due("without cards", x.cloud(), NONE);
        x.card(0, true);
        due("by none any, the least still", x.cloud(), 0);
        x.card(0x8000, true);
        due("the last", x.cloud(), 15);
        x.card(0x0010, true);
        due("of several the least", x.cloud(), 4);
        x.card(0x0013, false);
        // not lit and no is along too
        due("with a no card", x.cloud(), 15);
        x.away();
        x.away();
        x.away();
        x.card(0x7FFF, true);
        due("all but 15", x.cloud(), 0);
        x.card(2, true);
        due("the second", x.cloud(), 1);
    }

    private static void promise30Mend() {
        KnobEye x = new KnobEye();
        Check.rule(x, "c 0");
        Check.rule(x, "c 0 and lit < 16");
        Check.rule(x, "not c 0");
        Check.rule(x, "1 < 2");
        CHECK.index("mend 16", () -> x.mend(16, 0));
        CHECK.index("mend -1", () -> x.mend(-1, 0));
        CHECK.index("mend by rule 4", () -> x.mend(0, 4));
        CHECK.index("mend by rule NONE", () -> x.mend(0, NONE));
        due("without cards", x.mend(0, 0), 0);
        x.card(1, true);
        due("no card is so", x.mend(0, 0), NONE);
        due("one card is so", x.mend(0, 1), 1);
        due("all are so", x.mend(0, 2), 1);
        due("half are so", x.mend(0, 3), 1);
        due("none needed", x.mend(1, 0), 0);
        x.card(1, true);
        due("two of two", x.mend(0, 3), 2);
        x.card(0, true);
        due("two of three", x.mend(0, 3), 1);
        x.card(0, true);
        due("two of four", x.mend(0, 0), 0);
        x.card(1, true);
        due("three of five", x.mend(0, 0), NONE);
        due("three of five by another", x.mend(0, 3), 1);
        for (int n = 0; n < 15; n++) {
            x.card(0, false);
        }
        due("18 of 20, beyond what can be shown", x.mend(0, 3), 16);
        due("15 of 20 with the last cell", x.mend(15, 0), 10);
        KnobEye y = new KnobEye();
        Check.rule(y, "c 0 or lit < 1");
        Check.rule(y, "c 15 and lit < 16 or lit < 1 and rows > 0");
        Check.rule(y, "c 0 or rows < 1 and lit > 0");
        y.card(0x8001, true);
        due("the card 0 alone is so", y.mend(0, 0), 1);
        due("the card 65535 alone is so", y.mend(15, 1), 1);
        due("there are no further cards", y.mend(0, 2), NONE);
    }

    private static void promise31Bear() {
        KnobEye x = eye(0, 1, 1, 1, 1, 1, 1);
        CHECK.index("bear of no eye", () -> x.bear(1));
        CHECK.index("bear of eye -1", () -> x.bear(-1));
        due("without cards all may be lost", x.bear(0), 3);
        x.card(1, true);
        due("one must stay", x.bear(0), 2);
        x.knob(0, NONE, 1);
        due("two must stay", x.bear(0), 1);
        x.knob(0, NONE, 2);
        due("all must stay", x.bear(0), 0);
        x.knob(0, NONE, 3);
        due("it is not right", x.bear(0), NONE);
        x.knob(0, NONE, 0);
        x.card(0, true);
        due("nor on another", x.bear(0), NONE);
        KnobEye y = eye(0, 1, 5, 1, -5, 2, 1);
        y.card(1, false);
        // without the second alone it is wrong, without the first and the second right again
        due("not for the number of lost ones alone", y.bear(0), 0);
        KnobEye z = eye(0);
        due("without wires", z.bear(0), 0);
        z.card(0, false);
        due("right without wires", z.bear(0), 0);
        z.card(0, true);
        due("wrong without wires", z.bear(0), NONE);
        KnobEye w = eye(3, 1, 1, 1, 1, 1, 1, 1, 1, 1, 1, 1, 1);
        w.card(1, true);
        due("of six", w.bear(0), 2);
        w.knob(0, NONE, -1);
        due("all six", w.bear(0), 6);
    }

    private static void promise32Swapped() {
        KnobEye x = eye(0, 1, 1, 2, -1, 4, 1);
        CHECK.index("swapped of no eye", () -> x.swapped(1, 0, 0));
        CHECK.index("swapped 3", () -> x.swapped(0, 3, 0));
        CHECK.index("swapped with 3", () -> x.swapped(0, 0, 3));
        CHECK.index("swapped -1", () -> x.swapped(0, NONE, 0));
        CHECK.index("swapped with -1", () -> x.swapped(0, 0, NONE));
        due("without cards", x.swapped(0, 0, 1), 0);
        x.card(1, true);
        x.card(2, true);
        x.card(3, true);
        x.card(4, true);
        due("0 and 1", x.swapped(0, 0, 1), 2);
        due("1 and 0", x.swapped(0, 1, 0), 2);
        due("0 and 2, of one knob", x.swapped(0, 0, 2), 0);
        due("1 and 2", x.swapped(0, 1, 2), 3);
        due("1 and itself", x.swapped(0, 1, 1), 0);
        due("it stays as it was", x.sees(0, 1), 1);
        KnobEye y = new KnobEye();
        y.eye();
        y.wire(0, 3, 1);
        y.wire(0, 3, 0);
        y.knob(0, 0, 1);
        y.card(1, false);
        y.card(3, true);
        due("kinds too", y.swapped(0, 0, 1), 1);
        y.knob(0, 0, 0);
        y.knob(0, 1, 1);
        due("kinds too, by the other knob", y.swapped(0, 0, 1), 1);
        due("and the other way round", y.swapped(0, 1, 0), 1);
    }

    private static void promise33Soonest() {
        KnobEye x = eye(0, 1, 0, 2, 0);
        Check.turner(x, "turn 1 if wrong");
        Check.turner(x, "");
        CHECK.index("soonest of no eye", () -> x.soonest(1, 0));
        CHECK.index("soonest by no turner", () -> x.soonest(0, 2));
        CHECK.index("soonest by turner -1", () -> x.soonest(0, NONE));
        due("without cards", x.soonest(0, 0), 0);
        x.card(0, false);
        due("right already", x.soonest(0, 0), 0);
        x.card(1, true);
        due("the second card first", x.soonest(0, 0), 1);
        x.card(2, true);
        due("the second and third", x.soonest(0, 0), 2);
        due("by no turning", x.soonest(0, 1), NONE);
        due("the eye is left as it was", x.look(0, 0) + x.look(0, 1) + x.look(0, 8), 0);
        x.card(3, true);
        due("one for both", x.soonest(0, 0), 1);
        x.card(0, false);
        x.card(0, true);
        due("the sixth does not count", x.soonest(0, 0), 1);
        x.knob(0, 0, -3);
        x.knob(0, 1, -3);
        // up by 2 in each round: 3, 1, 2, the no cards, and again 3, 1, 2
        due("as it is", x.soonest(0, 0), 8);
    }

    /** Cards that are never turned by but at one time tell at which ones it is asked and when it ends. */
    private static void promise33SoonestOrders() {
        int[][] ends = {{1, 9, 10}, {1, 10, NONE}, {2, 19, 20}, {2, 20, NONE}, {5, 49, 50}, {5, 50, NONE}, {5, 0, 1}, {3, 28, 29}};
        for (int[] one : ends) {
            KnobEye x = eye(0, 1, 0);
            Check.turner(x, "turn 1 if shown > " + one[1]);
            for (int n = 0; n < one[0]; n++) {
                x.card(1, true);
            }
            due(one[0] + " cards, turned behind " + one[1], x.soonest(0, 0), one[2]);
            Check.turner(x, "turn 1 if shown > " + (one[1] + 3));
            for (int n = 0; n < 3; n++) {
                x.show(0, 0, 0);
                x.knob(0, 0, 0);
            }
            due("those that were shown count", x.soonest(0, 1), one[2]);
        }
        // cell 0 goes up by 5 at the third, then by 1 from the thirteenth on: it needs 10
        KnobEye y = eye(9, 1, 0, 6, 0);
        Check.turner(y, "turn 5 if shown > 2 and shown < 4; turn 1 if shown > 12");
        y.card(1, true);
        y.card(3, true);
        y.card(7, true);
        due("again and again", y.soonest(0, 0), 17);
        KnobEye z = eye(3, 1, 3);
        z.stuck(0, 0, 2);
        Check.turner(z, "turn 1");
        z.card(1, true);
        due("it falls as it is shown", z.soonest(0, 0), 1);
        z.knob(0, NONE, 4);
        due("behind the second it is 1 nearer to 0", z.soonest(0, 0), 3);
    }

    private static void promise34Together() {
        KnobEye x = new KnobEye();
        CHECK.argument("0", () -> x.together(0, 0));
        CHECK.argument("4", () -> x.together(4, 0));
        CHECK.argument("-1", () -> x.together(-1, 0));
        CHECK.argument("65536", () -> x.together(1, 65536));
        CHECK.argument("below 0", () -> x.together(1, -1));
        due("without eyes", x.together(1, 0), false);
        for (int n = 0; n < 3; n++) {
            addEye(x, 0, 1 << n, 1);
        }
        int[] lit = {0, 1, 4, 5, 3, 7};
        int[] say = {0, 1, 1, 2, 2, 3};
        for (int n = 0; n < lit.length; n++) {
            for (int many = 1; many <= 3; many++) {
                due(many + " on " + lit[n], x.together(many, lit[n]), say[n] >= many);
            }
        }
    }

    private static void promise35Layer() {
        KnobEye x = new KnobEye();
        due("without eyes", x.layer(), NONE);
        x.card(0, false);
        due("without eyes still", x.layer(), NONE);
        x.away();
        addEye(x, 0, 1, 1);
        due("without cards", x.layer(), 1);
        x.card(1, false);
        due("more than there are eyes", x.layer(), 2);
        x.away();
        x.card(1, true);
        due("one", x.layer(), 1);
        addEye(x, 0, 2, 1);
        addEye(x, 0, 4, 1);
        x.card(2, true);
        due("one of three", x.layer(), 1);
        x.away();
        x.away();
        x.card(3, true);
        x.card(1, false);
        due("two", x.layer(), 2);
        x.card(6, false);
        due("none", x.layer(), NONE);
        x.away();
        x.away();
        x.away();
        x.card(3, false);
        due("three", x.layer(), 3);
        x.card(7, true);
        due("three for seven", x.layer(), 3);
        x.card(7, false);
        due("both", x.layer(), NONE);
    }

    private static void promise36Read() {
        KnobEye x = eye(77, 8, 200);
        CHECK.index("read of no eye", () -> x.read(1, 1, false));
        CHECK.index("read of no eye, nor K", () -> x.read(-1, 3, true));
        CHECK.argument("read K 0", () -> x.read(0, 0, false));
        CHECK.argument("read K 3", () -> x.read(0, 3, true));
        CHECK.argument("read K -1", () -> x.read(0, -1, true));
        due("without cards", x.read(0, 1, false), 57);
        due("without cards by 2", x.read(0, 2, false), 95);
        x.card(8, true);
        // lines below - 1, 0 and 1: 8 + 9 + 10; and below - 2 and 2: 7 + 11
        due("a yes card", x.read(0, 1, false), 27);
        due("a yes card by 2", x.read(0, 2, false), 45);
        x.card(0, false);
        due("and a no card: 1, above 0", x.read(0, 1, false), 1);
        due("and a no card by 2: 2 lines for 2", x.read(0, 2, false), 3);
        x.card(8, false);
        due("none", x.read(0, 2, false), 0);
        x.away();
        x.away();
        x.away();
        x.card(8, false);
        due("a no card", x.read(0, 1, false), 30);
        KnobEye y = eye(0, 65535, 0);
        y.card(65535, true);
        due("lines - 9 to 9 alone", y.read(0, 2, false), 47);
        y.card(511, false);
        // 1: 9 to 15, but 9 alone; 2: 18 to 31: none
        due("between 9 and 16", y.read(0, 2, false), 1);
        KnobEye z = eye(0);
        z.card(0, true);
        due("without wires, yes", z.read(0, 1, false), 9);
        z.card(0, true);
        due("twice", z.read(0, 1, false), 9);
        z.card(7, false);
        due("without wires, both", z.read(0, 1, false), 0);
        KnobEye six = eye(0, 1, 0, 2, 0, 4, 0, 8, 0, 16, 0, 32, 0);
        due("six wires", six.read(0, 2, false), 15625 * 19);
    }

    private static void promise36Next() {
        KnobEye x = eye(0, 8, 0);
        due("all alike: the first", x.read(0, 1, true), 16);
        x.card(0, false);
        due("cell 3: no by 29, not by 30", x.read(0, 1, true), 19);
        x.card(0, true);
        due("none", x.read(0, 1, true), NONE);
        KnobEye y = new KnobEye();
        y.eye();
        y.wire(0, 0x30, 1);
        y.card(0, false);
        due("two cells", y.read(0, 2, true), 36);
        KnobEye z = new KnobEye();
        z.eye();
        z.wire(0, 0x0C, 2);
        z.card(0, false);
        due("of several the lesser one", z.read(0, 1, true), 18);
        KnobEye w = new KnobEye();
        w.eye();
        w.wire(0, 0x8000, 0);
        w.card(0, false);
        due("the last cell", w.read(0, 1, true), 31);
        w.wire(0, 0x4000, 0);
        due("the one of less cells goes ahead", w.read(0, 1, true) < 32, false);
        KnobEye v = new KnobEye();
        v.eye();
        v.wire(0, 0xC000, 1);
        v.card(0, false);
        due("the last two", v.read(0, 1, true), 46);
        KnobEye u = new KnobEye();
        u.eye();
        u.wire(0, 1, 0);
        u.card(0, true);
        // of 27 eyes cell 0 is no by one alone, and yes by the others of these
        due("the most frequent may be yes", u.read(0, 1, true), 16);
    }

    private static void promise37Holds() {
        KnobEye x = eye(0, 1, 3, 2, -4);
        Check.rule(x, "c 0");
        Check.rule(x, "1 < 2");
        Check.turner(x, "");
        CHECK.index("holds 0", () -> x.holds(0));
        String[] texts = {"right > 1", "cards < 3", "shown > 0", "knobs > 6 and knobs < 8", "blind", "unseen > 74 and unseen < 76"};
        for (String text : texts) {
            Check.claim(x, 0, 0, text);
        }
        CHECK.index("holds 6", () -> x.holds(6));
        CHECK.index("holds -1", () -> x.holds(-1));
        // of the cards of cells 0 and 1 it is wrong where both are lit: 16384; 49152 by 656 is 74.9..
        boolean[] first = {false, true, false, true, false, false};
        for (int n = 0; n < 6; n++) {
            due("holds " + texts[n], x.holds(n), first[n]);
        }
        x.knob(0, 1, 0);
        x.knob(0, 0, 0);
        x.knob(0, NONE, 5);
        due("knobs, not the line", x.holds(3), false);
        x.card(1, true);
        x.card(3, true);
        due("right on none", x.holds(0), false);
        x.knob(0, 0, 7);
        due("right on two", x.holds(0), true);
        due("knobs", x.holds(3), true);
        x.card(5, false);
        due("cards", x.holds(1), false);
        due("blind", x.holds(4), true);
        x.show(0, 0, 0);
        due("shown", x.holds(2), true);
        addEye(x, 0);
        x.show(1, 0, 0);
        due("shown to this eye", x.holds(2), true);
        KnobEye y = eye(0, 1, 1);
        Check.rule(y, "c 0");
        Check.rule(y, "c 0 and c 1");
        Check.rule(y, "even and c 2");
        Check.claim(y, 0, 0, "unseen > 98 and unseen < 100");
        Check.claim(y, 0, 1, "unseen > 73 and unseen < 75");
        Check.claim(y, 0, 2, "not unseen > 49 or unseen < 50 and blind");
        addEye(y, 0);
        Check.claim(y, 1, 0, "unseen > 48 and unseen < 50 and knobs < 1 and shown < 1");
        Check.turner(y, "");
        y.card(0, false);
        y.show(0, 0, 0);
        due("all right: 99", y.holds(0), true);
        due("three of four: 74", y.holds(1), true);
        due("half: 49", y.holds(2), true);
        Check.rule(y, "lit < 12");
        Check.claim(y, 0, 3, "unseen > 0");
        due("of another eye", y.holds(3), true);
        // 63019 cards have fewer than 12 lit: by 656 that is 96.06..
        y.eye();
        y.knob(2, NONE, -1);
        Check.claim(y, 2, 3, "unseen > 95 and unseen < 97");
        due("by 656", y.holds(5), true);
        y.knob(0, 0, -1);
        due("judged now", y.holds(0), false);
        due("an eye of no knobs still", y.holds(3), true);
    }

    private static void promise38And39Image() {
        KnobEye x = eye(4, 3, 2, 12, -2);
        due("none was kept", x.back(), false);
        due("nothing happened", x.count(3), 1);
        Check.rule(x, "c 0");
        Check.turner(x, "turn 1; line 1");
        Check.claim(x, 0, 0, "cards < 2");
        x.card(3, true);
        x.stuck(0, 2, 3);
        x.show(0, 0, 0);
        x.image();
        x.feed(1, 2, 3, 4, 5);
        x.card(5, false);
        addEye(x, 1, 7, 7);
        x.wire(0, 5, 1);
        x.knob(0, 0, 50);
        x.knob(0, 1, 50);
        x.knob(0, NONE, 50);
        x.stuck(0, 1, 1);
        x.show(0, 1, 0);
        x.end(0);
        Check.rule(x, "c 1");
        Check.turner(x, "turn 9");
        Check.claim(x, 1, 1, "cards < 3");
        Check.put(x, "even even");
        CHECK.argument("a wrong text", () -> x.rule());
        x.feed(0x6576656E, 0, 0, 0, 0);
        for (int time = 0; time < 2; time++) {
            due("back", x.back(), true);
            int[] looks = {4, -2, 0, 0, 0, 0, 3, 2, 1, 2, 3, 1, 2};
            for (int what = 0; what < looks.length; what++) {
                due("look " + what, x.look(0, what), looks[what]);
            }
            int[] counts = {1, 1, 1, 1, 1, 1, 1, 2};
            for (int what = 0; what < counts.length; what++) {
                due("count " + what, x.count(what), counts[what]);
            }
            due("the rule", x.right(0, 1), true);
            due("the card", x.along(0), 1);
            due("fault stays", x.fault(), 5);
            due("sees", x.sees(0, 3), 8);
            // what comes behind leaves the image alone
            x.away();
            x.card(0, false);
            x.show(0, 0, 0);
            x.knob(0, 0, 9);
            x.wire(0, 1, 1);
            due("a new eye", x.eye(), 1);
            due("it is new", x.look(1, 0) + x.look(1, 6) + x.look(1, 7) + x.look(1, 8), 0);
        }
        due("the tape stays", x.end(20), true);
        x.end(4);
        due("a rule behind", x.rule(), 1);
        due("it is that", x.right(1, 3), true);
        x.card(3, true);
        x.image();
        x.away();
        due("found without it", x.found(0, 1, 7), 0);
        x.back();
        due("found of the image", x.found(0, 1, 7), 1);
        due("the latest image", x.count(0), 2);
        due("its cards", x.count(1), 2);
        KnobEye y = new KnobEye();
        y.image();
        y.eye();
        due("back to nothing", y.back(), true);
        due("no eye", y.count(3), 0);
        due("an eye", y.eye(), 0);
        due("without wires", y.wire(0, 1, 0), 0);
    }

    private static void promise40Count() {
        KnobEye x = eye(0, 1, 1, 2, 1);
        addEye(x, 0, 1, 1);
        addEye(x, 0);
        Check.rule(x, "c 0");
        Check.rule(x, "c 1");
        Check.rule(x, "c 2");
        Check.rule(x, "c 3");
        Check.turner(x, "");
        Check.turner(x, "turn 1");
        for (int n = 0; n < 9; n++) {
            x.card(n, n > 3);
        }
        for (int n = 7; n < 12; n++) {
            Check.claim(x, 0, 0, "cards > " + n);
        }
        int[] counts = {4, 9, 5, 3, 2, 5, 2, 3};
        for (int what = 0; what < counts.length; what++) {
            due("count " + what, x.count(what), counts[what]);
        }
        due("count 8", x.count(8), NONE);
        due("count -1", x.count(-1), NONE);
        due("count MAX", x.count(Integer.MAX_VALUE), NONE);
        x.away();
        due("yes cards then", x.count(2), 4);
        due("claims that hold then", x.count(6), 1);
    }
}
