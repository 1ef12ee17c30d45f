/** Promises 20 to 25: what an EYE can, what bars it, and what it cannot tell apart. */
public final class CanTest {
    private static final Check CHECK = new Check("CanTest");
    private static final int NONE = KnobEye.NONE;

    public static void main(String[] args) {
        promise20Can();
        promise21Found();
        promise21Ties();
        promise21SoughtAgain();
        promise22Bars();
        promise23Bound();
        promise24BlindPairs();
        promise24BlindByRule();
        promise24BlindOfManyValues();
        promise25Odds();
        CHECK.end();
    }

    private static void due(String what, Object got, Object want) {
        CHECK.due(what, got, want);
    }

    /** An eye with SUM wires of these cells. */
    private static KnobEye eye(int... wires) {
        KnobEye x = new KnobEye();
        x.eye();
        for (int cells : wires) {
            x.wire(0, cells, 0);
        }
        return x;
    }

    /** FOUND: the knobs, then the line, then the knobs without signs. */
    private static void dueFound(KnobEye x, int k, int... want) {
        for (int what = 0; what < 8; what++) {
            due("found by " + k + ": " + what, x.found(0, k, what), want[what]);
        }
    }

    private static void dueNotFound(KnobEye x, int k) {
        due("can by " + k, x.can(0, k), false);
        dueFound(x, k, 9999, 9999, 9999, 9999, 9999, 9999, 9999, 9999);
    }

    /** Of cells 0 to 2 and of cell 3: only by knobs of 2 is 9 above 0 and 11. */
    private static KnobEye onlyByTwo() {
        KnobEye x = eye(7, 8);
        x.card(0, false);
        x.card(9, true);
        x.card(11, false);
        return x;
    }

    private static void wrongArguments(KnobEye x, String name, java.util.function.IntBinaryOperator call) {
        CHECK.index(name + " of no eye", () -> call.applyAsInt(1, 1));
        CHECK.index(name + " of eye -1", () -> call.applyAsInt(-1, 1));
        CHECK.index(name + " of no eye, nor K", () -> call.applyAsInt(1, 0));
        CHECK.argument(name + " K 0", () -> call.applyAsInt(0, 0));
        CHECK.argument(name + " K 4", () -> call.applyAsInt(0, 4));
        CHECK.argument(name + " K -1", () -> call.applyAsInt(0, -1));
    }

    private static void promise20Can() {
        KnobEye x = eye(1);
        wrongArguments(x, "can", (eye, k) -> x.can(eye, k) ? 1 : 0);
        due("without cards", x.can(0, 1), true);
        x.card(1, true);
        x.card(0, false);
        due("one knob", x.can(0, 1), true);
        x.card(3, false);
        due("like values", x.can(0, 3), false);
        due("only by two: 1", onlyByTwo().can(0, 1), false);
        due("only by two: 2", onlyByTwo().can(0, 2), true);
        due("only by two: 3", onlyByTwo().can(0, 3), true);
        KnobEye y = eye();
        due("without wires", y.can(0, 1), true);
        y.card(1, true);
        y.card(2, true);
        due("all yes", y.can(0, 1), true);
        y.card(3, false);
        due("without wires, both", y.can(0, 3), false);
        KnobEye z = eye(1, 2);
        z.card(0, false);
        z.card(1, true);
        z.card(2, true);
        z.card(3, false);
        due("one or the other, not both", z.can(0, 3), false);
        z.wire(0, 3, 2);
        due("with an ODD wire", z.can(0, 1), true);
        KnobEye w = eye(65535, 1);
        // the line may lie anywhere: 2000 is no bound of it here, nor is what is stuck
        w.card(65535, true);
        w.card(32767, false);
        w.stuck(0, 127, 0);
        w.knob(0, 0, -200);
        due("whatever the eye is now", w.can(0, 1), true);
        due("its line", w.found(0, 1, 6), 15);
    }

    private static void promise21Found() {
        KnobEye x = eye(1);
        wrongArguments(x, "found", (eye, k) -> x.found(eye, k, 0));
        CHECK.none("found -1", () -> x.found(0, 1, -1));
        CHECK.none("found 8", () -> x.found(0, 1, 8));
        CHECK.argument("found 8 by 0", () -> x.found(0, 0, 8));
        CHECK.index("found 8 by 0 of no eye", () -> x.found(1, 0, 8));
        dueFound(x, 3, 0, 0, 0, 0, 0, 0, 0, 0);
        x.card(1, true);
        dueFound(x, 3, 0, 0, 0, 0, 0, 0, -1, 0);
        x.card(3, true);
        x.card(0, false);
        dueFound(x, 3, 1, 0, 0, 0, 0, 0, 0, 1);
        x.card(2, true);
        dueNotFound(x, 3);
        CHECK.none("found 8, if it cannot", () -> x.found(0, 3, 8));
        KnobEye y = eye(15);
        y.card(0, true);
        y.card(15, false);
        y.card(3, false);
        dueFound(y, 2, -1, 0, 0, 0, 0, 0, -2, 1);
        dueNotFound(onlyByTwo(), 1);
        dueFound(onlyByTwo(), 2, -1, 2, 0, 0, 0, 0, 0, 3);
        dueFound(onlyByTwo(), 3, -1, 2, 0, 0, 0, 0, 0, 3);
        KnobEye z = eye();
        z.card(7, false);
        dueFound(z, 1, 0, 0, 0, 0, 0, 0, 0, 0);
        // yes 1 above no 0 by the least, though a wire of many cells would see more
        KnobEye six = eye(1, 2, 4, 8, 16, 32);
        six.card(0b100010, false);
        six.card(0b100011, true);
        six.card(0b100110, true);
        six.card(0b110010, true);
        six.card(0b110011, false);
        dueNotFound(six, 3);
        six.away();
        dueFound(six, 1, 1, 0, 1, 0, 1, 0, 0, 3);
    }

    private static void promise21Ties() {
        KnobEye x = eye(1, 1, 1);
        x.card(1, true);
        x.card(0, false);
        dueFound(x, 3, 0, 0, 1, 0, 0, 0, 0, 1);
        KnobEye y = eye(1, 1, 1);
        y.card(0, true);
        y.card(1, false);
        dueFound(y, 3, -1, 0, 0, 0, 0, 0, -1, 1);
        // left and right: right less is as little as left more, and its first knob is the lesser one
        KnobEye z = eye(0x3333, 0xCCCC);
        z.card(1, true);
        z.card(4, false);
        dueFound(z, 3, 0, -1, 0, 0, 0, 0, -1, 1);
        // the least together goes ahead of the least first knob
        KnobEye w = eye(1, 2, 3);
        w.card(0, true);
        w.card(1, false);
        w.card(2, false);
        dueFound(w, 3, 0, 0, -1, 0, 0, 0, -1, 1);
    }

    /** FOUND is of all that is so now, whatever was found before. */
    private static void promise21SoughtAgain() {
        KnobEye x = eye(1);
        Check.rule(x, "c 0");
        x.image();
        x.card(1, true);
        due("yes alone", x.found(0, 1, 6), -1);
        x.made(0, 0);
        due("with a no card", x.found(0, 1, 0), 1);
        x.away();
        due("without it", x.found(0, 1, 0), 0);
        x.card(3, false);
        due("with another one", x.found(0, 1, 7), 9999);
        x.wire(0, 2, 0);
        due("with another wire", x.found(0, 1, 1), -1);
        x.eye();
        due("another eye", x.can(1, 1), false);
        due("the first again", x.can(0, 1), true);
        x.bars(0, 1);
        due("behind bars", x.found(0, 1, 0), 0);
        x.read(0, 1, true);
        due("behind read", x.found(0, 1, 1), -1);
        x.bars(1, 1);
        due("behind bars of another", x.found(0, 1, 7), 1);
        x.read(0, 1, false);
        due("behind read, of the other", x.found(1, 1, 7), 9999);
        x.read(0, 1, false);
        due("behind read again", x.can(1, 1), false);
        x.back();
        due("back", x.found(0, 1, 6), 0);
        KnobEye y = onlyByTwo();
        due("by 2", y.can(0, 2), true);
        due("by 1", y.can(0, 1), false);
        due("by 2 again", y.can(0, 2), true);
    }

    private static void promise22Bars() {
        KnobEye x = eye(1, 2);
        wrongArguments(x, "bars", x::bars);
        due("without cards", x.bars(0, 1), NONE);
        x.card(0, false);
        due("one", x.bars(0, 1), NONE);
        x.card(1, true);
        x.card(2, true);
        due("three", x.bars(0, 1), NONE);
        x.card(3, false);
        due("the fourth", x.bars(0, 1), 3);
        x.card(3, true);
        x.card(0, false);
        due("it stays the first", x.bars(0, 3), 3);
        due("only by two: 1", onlyByTwo().bars(0, 1), 2);
        due("only by two: 2", onlyByTwo().bars(0, 2), NONE);
        KnobEye y = eye();
        y.card(0, true);
        y.card(0, true);
        y.card(0, false);
        due("without wires", y.bars(0, 1), 2);
        KnobEye z = eye(65535);
        for (int n = 0; n < 19; n++) {
            z.card((1 << n % 5) - 1, n % 5 > 2);
        }
        due("nineteen", z.bars(0, 1), NONE);
        z.card(1, true);
        due("the twentieth", z.bars(0, 1), 19);
        KnobEye w = eye(1);
        w.card(0, true);
        w.card(0, false);
        for (int n = 0; n < 18; n++) {
            w.card(0, true);
        }
        due("the second of twenty", w.bars(0, 3), 1);
    }

    private static void promise23Bound() {
        KnobEye x = eye(1);
        wrongArguments(x, "bound", x::bound);
        due("without cards", x.bound(0, 1), NONE);
        x.card(1, true);
        due("without no cards", x.bound(0, 1), NONE);
        x.card(0, false);
        // M 1, A 1, R 2: 2 * (4 + 1)
        due("one knob", x.bound(0, 1), 10);
        x.card(1, false);
        due("it cannot", x.bound(0, 1), NONE);
        KnobEye y = eye(1);
        y.card(0, false);
        due("without yes cards", y.bound(0, 1), NONE);
        // M 1, A 1, R 1 + 4 + 1: 6 * (4 * 5 + 1)
        due("only by two", onlyByTwo().bound(0, 2), 126);
        due("only by two: 1", onlyByTwo().bound(0, 1), NONE);
        KnobEye z = eye(15);
        z.card(15, true);
        z.card(0, false);
        // M 4, A 4, R 17: 17 * (4 + 16) by 16 is 21.25
        due("rounded down", z.bound(0, 1), 21);
        KnobEye w = eye(15);
        w.card(0, true);
        w.card(15, false);
        w.card(7, false);
        // - 1: yes 0, no - 4 and - 3: M 3, A - 3, R 17: 17 * (4 + 9) by 9 is 24.5..
        due("below 0", w.bound(0, 1), 24);
        KnobEye big = eye(65535, 65535, 65535, 65535, 65535, 65535);
        big.card(65535, true);
        big.card(65534, false);
        // one knob 1 of six alike: M 1, A 31, R 6 * 256 + 1: 1537 * (4 + 961)
        due("big", big.bound(0, 3), 1483205);
    }

    private static void promise24BlindPairs() {
        KnobEye x = eye(1);
        CHECK.index("blind of no eye", () -> x.blind(1, NONE));
        CHECK.index("blind of eye -1", () -> x.blind(-1, NONE));
        CHECK.index("blind by no rule", () -> x.blind(0, 0));
        CHECK.index("blind by rule -2", () -> x.blind(0, -2));
        due("without cards", x.blind(0, NONE), NONE);
        x.card(1, true);
        x.card(3, true);
        due("right alike", x.blind(0, NONE), NONE);
        x.card(2, false);
        x.card(0, false);
        due("told apart", x.blind(0, NONE), NONE);
        x.card(4, true);
        due("2 and 4", x.blind(0, NONE), 44);
        x.card(5, false);
        due("0 and 5 are the first such", x.blind(0, NONE), 5);
        KnobEye y = eye();
        y.card(0, false);
        y.card(1, true);
        y.card(1, true);
        due("without wires", y.blind(0, NONE), 1);
        KnobEye z = eye(3, 5);
        z.card(1, true);
        z.card(6, false);
        due("like by sums", z.blind(0, NONE), 1);
        z.wire(0, 6, 1);
        due("told apart by an ALL wire", z.blind(0, NONE), NONE);
        KnobEye w = eye(1);
        for (int n = 0; n < 20; n++) {
            w.card(n < 18 ? 0 : 1, n == 19);
        }
        due("18 and 19", w.blind(0, NONE), 379);
    }

    private static void promise24BlindByRule() {
        KnobEye x = eye();
        String[] rules = {"even", "1 < 2", "c 0", "piece"};
        for (String rule : rules) {
            Check.rule(x, rule);
        }
        due("all alike: even", x.blind(0, 0), 0);
        due("all alike, all yes", x.blind(0, 1), NONE);
        x.wire(0, 65535, 0);
        due("by lit: even", x.blind(0, 0), NONE);
        due("by lit: c 0", x.blind(0, 2), 1);
        due("by lit: piece", x.blind(0, 3), 3);
        x.wire(0, 1, 0);
        due("by lit and c 0: c 0", x.blind(0, 2), NONE);
        due("by lit and c 0: piece", x.blind(0, 3), 3);
        x.wire(0, 3, 1);
        x.wire(0, 17, 1);
        due("by more: piece", x.blind(0, 3), 6);
        KnobEye y = eye(65535);
        Check.rule(y, "c 15 and lit > 14");
        due("the least of 15 lit", y.blind(0, 0), 0x7FFF);
        Check.rule(y, "lit < 16");
        due("the card alone of its values", y.blind(0, 1), NONE);
        y.eye();
        y.wire(1, 65535, 2);
        due("by ODD: all lit or none", y.blind(1, 1), 0);
        due("SHOWN CARDS do not matter", y.blind(1, NONE), NONE);
        due("again", y.blind(0, 0), 0x7FFF);
    }

    /** Some ten thousand kinds of VALUES; a RULE that is right on one card alone is blind where that one's like begin. */
    private static void promise24BlindOfManyValues() {
        int[] wires = {0b1011010110010011, 0b0110101101011100, 0b1100011110101001, 0b0011110000111110, 0b1010101011010011, 0b1101000101101110};
        java.util.Map<Integer, Integer> firsts = new java.util.HashMap<>();
        int[] first = new int[65536];
        int[] many = new int[65536];
        for (int lit = 0; lit < 65536; lit++) {
            int values = 0;
            for (int cells : wires) {
                values = 17 * values + Integer.bitCount(cells & lit);
            }
            firsts.putIfAbsent(values, lit);
            first[lit] = firsts.get(values);
            many[first[lit]]++;
        }
        due("many kinds", firsts.size() > 3000, true);
        int asked = 0;
        for (int lit = 7; lit < 65536; lit += 251) {
            StringBuilder text = new StringBuilder();
            for (int cell = 0; cell < 16; cell++) {
                text.append(cell == 0 ? "" : " and ").append((lit >> cell) % 2 == 1 ? "c" : "not c").append(cell);
            }
            KnobEye x = eye(wires);
            Check.rule(x, text.toString());
            due("blind by " + lit + " alone", x.blind(0, 0), many[first[lit]] == 1 ? NONE : first[lit]);
            asked++;
        }
        due("asked", asked, 262);
    }

    private static void promise25Odds() {
        KnobEye x = eye();
        Check.rule(x, "even");
        CHECK.index("odds of no eye", () -> x.odds(1, 0, 0));
        CHECK.index("odds by no rule", () -> x.odds(0, 1, 0));
        CHECK.index("odds by rule NONE", () -> x.odds(0, NONE, 0));
        CHECK.index("odds by no rule, of none", () -> x.odds(0, 1, 17));
        CHECK.argument("odds of 17", () -> x.odds(0, 0, 17));
        CHECK.argument("odds of -2", () -> x.odds(0, 0, -2));
        due("always no", x.odds(0, 0, NONE), 32768);
        due("always no, of 0", x.odds(0, 0, 0), 0);
        due("always no, of 2", x.odds(0, 0, 2), 0);
        due("always no, of 3", x.odds(0, 0, 3), 560);
        due("always no, of 15", x.odds(0, 0, 15), 16);
        x.knob(0, NONE, -1);
        due("always yes, of 0", x.odds(0, 0, 0), 1);
        due("always yes, of 2", x.odds(0, 0, 2), 120);
        due("always yes, of 8", x.odds(0, 0, 8), 12870);
        due("always yes, of 16", x.odds(0, 0, 16), 1);
        x.wire(0, 65535, 2);
        x.knob(0, 0, -1);
        due("by ODD", x.odds(0, 0, NONE), 65536);
        due("by ODD, of 7", x.odds(0, 0, 7), 11440);
        x.knob(0, NONE, 0);
        due("always no again", x.odds(0, 0, NONE), 32768);
        Check.rule(x, "c 0");
        x.wire(0, 1, 0);
        x.knob(0, 0, 0);
        x.knob(0, 1, 1);
        due("by cell 0", x.odds(0, 1, NONE), 65536);
        x.knob(0, 1, -1);
        x.knob(0, NONE, -1);
        due("by cell 0, otherwise", x.odds(0, 1, NONE), 0);
    }
}
