/** Promises 1 to 8 and the texts of TURNERS and CLAIMS: the TAPE, what texts are wrong and where, what right ones mean. */
public final class TextTest {
    private static final Check CHECK = new Check("TextTest");
    private static final int NONE = KnobEye.NONE;

    public static void main(String[] args) {
        promise1New();
        promise2Feed();
        promise3End();
        promise4Rule();
        promise4WrongRules();
        promise5Turner();
        promise6Claim();
        promise7Fault();
        promise8Right();
        CHECK.end();
    }

    private static void due(String what, Object got, Object want) {
        CHECK.due(what, got, want);
    }

    private static void promise1New() {
        KnobEye x = new KnobEye();
        for (int what = 0; what <= 7; what++) {
            due("new: count " + what, x.count(what), 0);
        }
        due("new: fault", x.fault(), NONE);
        due("new: away", x.away(), NONE);
        due("new: cloud", x.cloud(), NONE);
        due("new: layer", x.layer(), NONE);
        due("new: back", x.back(), false);
        due("new: end 0", x.end(0), true);
        due("new: end 1", x.end(1), false);
        due("new: together", x.together(1, 65535), false);
        due("new: along", x.along(0), 0);
        CHECK.index("new: right", () -> x.right(0, 0));
        CHECK.index("new: made", () -> x.made(0, 0));
        CHECK.index("new: look", () -> x.look(0, 0));
        CHECK.index("new: holds", () -> x.holds(0));
        CHECK.index("new: goesBy", () -> x.goesBy(0));
        CHECK.index("new: mend", () -> x.mend(0, 0));
        due("another new: the first eye", new KnobEye().eye(), 0);
    }

    private static void promise2Feed() {
        KnobEye x = new KnobEye();
        for (int n = 20; n <= 400; n += 20) {
            due("feed to " + n, x.feed(n, 0, 0, 0, 0), n);
        }
        due("feed beyond 400", x.feed(1, 1, 1, 1, 1), NONE);
        due("none came", x.end(401), false);
        due("all are there", x.end(400), true);
        due("end 381", x.end(381), true);
        due("feed beyond 400 by one", x.feed(1, 1, 1, 1, 1), NONE);
        due("end 380", x.end(380), true);
        due("feed just to 400", x.feed(1, 1, 1, 1, 1), 400);

        KnobEye y = new KnobEye();
        // "even", " or ", "c 15", " or ", "c 14": the highest byte first, the numbers in their order
        y.feed(0x6576656E, 0x206F7220, 0x63203135, 0x206F7220, 0x63203134);
        due("a text of five numbers", y.rule(), 0);
        due("even", y.right(0, 3), true);
        due("c 15", y.right(0, 1 << 15), true);
        due("c 14", y.right(0, 1 << 14), true);
        due("neither", y.right(0, 1), false);
        y.feed(0xE9656576, 0, 0, 0, 0);
        y.end(1);
        CHECK.argument("a byte above 127", () -> y.rule());
        due("its fault", y.fault(), 0);
        // bytes of a text come behind what is there
        y.feed(0x6C697420, 0x20202020, 0x20202020, 0x20202020, 0x20202020);
        y.end(4);
        y.feed(0x3E203120, 0x20202020, 0x20202020, 0x20202020, 0x20202020);
        due("lit > 1 in two pieces", y.rule(), 1);
        due("it is read", y.right(1, 3), true);
        due("the tape was used up", y.feed(0, 0, 0, 0, 0), 20);
    }

    private static void promise3End() {
        KnobEye x = new KnobEye();
        x.feed(0x6576656E, 0x2A2A2A2A, 0, 0, 0);
        due("end -1", x.end(-1), false);
        due("end 21", x.end(21), false);
        due("end 20", x.end(20), true);
        due("end 5", x.end(5), true);
        due("end 6 then", x.end(6), false);
        due("end 4", x.end(4), true);
        due("the first four bytes alone", x.rule(), 0);
        due("nothing is left", x.end(1), false);
        due("end 0", x.end(0), true);
        x.feed(0x6576656E, 0, 0, 0, 0);
        due("end MIN", x.end(Integer.MIN_VALUE), false);
        due("all are there still", x.end(20), true);
    }

    private static void promise4Rule() {
        KnobEye x = new KnobEye();
        due("rule 0", Check.rule(x, "even"), 0);
        due("rule 1", Check.rule(x, "  lit>3 "), 1);
        due("rule 2", Check.rule(x, "not even and not c0 or piece"), 2);
        due("rule 3", Check.rule(x, "(((((not piece)))))"), 3);
        due("count", x.count(0), 4);
        CHECK.index("right by a fifth", () -> x.right(4, 0));
        Check.put(x, "even");
        CHECK.unsupported("a fifth", () -> x.rule());
        due("of a good text", x.fault(), NONE);
        due("the tape was used up", x.end(1), false);
        Check.put(x, "even even");
        CHECK.argument("a fifth that is wrong", () -> x.rule());
        due("its fault", x.fault(), 5);
        due("the tape was used up too", x.end(1), false);
        due("count then", x.count(0), 4);
        x.image();
        x.back();
        due("none is lost", x.right(3, 5), true);
    }

    private static void promise4WrongRules() {
        Object[][] wrong = {
            {"", 0}, {"   ", 3}, {"lit", 3}, {"lit <", 5}, {"lit < ", 6}, {"lit 3", 4}, {"lit < < 3", 6},
            {"lit < 10000", 6}, {"lit < 00001", 6}, {"12345 < lit", 0}, {"lit<3<4", 5}, {"lit < 3 lit", 8},
            {"3 * 4 < 1", 4}, {"3 * even < 1", 4}, {"3 *", 3}, {"3 * < 1", 4}, {"lit * 3 < 1", 4}, {"2 lit < 1", 2},
            {"1 + < 3", 4}, {"+ 1 < 3", 0}, {"1 + + 1 < 3", 4}, {"1", 1}, {"1 and even", 2},
            {"c", 1}, {"c ", 2}, {"c 16", 2}, {"c even", 2}, {"c 00015", 2}, {"c 9999", 2}, {"c 1 2", 4}, {"c * 1", 2},
            {"even even", 5}, {"even and", 8}, {"even or ", 8}, {"even and or even", 9}, {"and even", 0}, {"or", 0},
            {"not", 3}, {"not )", 4}, {"not lit", 7}, {"not and", 4}, {"notnot even", 0}, {"noteven", 0}, {"evenand", 0},
            {"(even", 5}, {"(even ", 6}, {"(", 1}, {"()", 1}, {"even)", 4}, {"((even)", 7}, {"(even))", 6},
            {"(lit) < 3", 4}, {"((((((((", 6}, {"not not not not not not not even", 24}, {"(((not((not even", 8},
            {"((((((not even))))))", 6}, {"not (not (not (not even)))", 15}, {"even and (((((((lit", 15},
            {"far < 1", 0}, {"lit < far", 6}, {"wrong", 0}, {"blind", 0}, {"yes", 0}, {"cards < 1", 0}, {"odd", 0},
            {"Even", 0}, {"even\n", 4}, {"even;", 4}, {"\u00ffeven", 0}, {"even or piece!", 13}, {"lit = 3", 4},
            {"evene", 0}, {"evenz", 0}, {"zeven", 0}, {"eve", 0}, {"lit < -1", 6}, {"lit > 1 and 2", 13}, {"turn 1", 0}, {"even if even", 5},
            {"lit`", 3}, {"lit{", 3}, {"lit < 1:", 7}, {"lit < 1/", 7}, {"piece or c 15 or c 16", 19},
        };
        for (Object[] one : wrong) {
            KnobEye x = new KnobEye();
            String text = (String) one[0];
            Check.put(x, text);
            CHECK.argument("rule " + text, () -> x.rule());
            due("count behind " + text, x.count(0), 0);
            due("fault of " + text, x.fault(), one[1]);
        }
    }

    private static void promise5Turner() {
        KnobEye x = new KnobEye();
        due("turner 0, of no line", Check.turner(x, ""), 0);
        due("turner 1, of blanks", Check.turner(x, "    "), 1);
        due("turner 2", Check.turner(x, "turn 50 if wrong;line0;line 0050 if not yes or far+1*value<3"), 2);
        String ten = "turn 1;turn 1;turn 1;turn 1;turn 1;line 1;line 1;line 1;line 1;line 1";
        due("turner 3, of ten lines", Check.turner(x, ten), 3);
        due("count", x.count(4), 4);
        Check.put(x, "turn 1");
        CHECK.unsupported("a fifth", () -> x.turner());
        due("of a good text", x.fault(), NONE);
        due("the tape was used up", x.end(1), false);
        Check.put(x, "turn 51");
        CHECK.argument("a fifth that is wrong", () -> x.turner());
        due("its fault", x.fault(), 5);
        Object[][] wrong = {
            {"turn", 4}, {"turn ", 5}, {"line", 4}, {"turn 51", 5}, {"line 51", 5}, {"turn 00001", 5}, {"turn if wrong", 5},
            {"turn 1 if", 9}, {"turn 1 if ", 10}, {"turn 1 wrong", 7}, {"turn 1;", 7}, {"turn 1; ", 8}, {";", 0},
            {"turn 1;;turn 1", 7}, {"turn 1 turn 1", 7}, {"spin 1", 0}, {"turn 1;spin 1", 7}, {"turn 1 if lit < 1", 10},
            {"turn 1 if even", 10}, {"turn 1 if knob", 14}, {"turn 1 if wrong wrong", 16}, {"turn 1 if wrong)", 15},
            {"turn 1 if (wrong;line 1", 16}, {"1", 0}, {"if wrong", 0}, {"turn 1 if blind", 10}, {"turn -1", 5},
            {ten + ";turn 1", 70}, {ten + ";", 70}, {ten + "; ", 71}, {ten + "  ;  7", 74}, {ten + ";;", 70},
            {"turn 1 if not not not not not not (", 34}, {"turn 1 if cards < 1", 10}, {"wrong", 0},
        };
        for (Object[] one : wrong) {
            KnobEye y = new KnobEye();
            String text = (String) one[0];
            Check.put(y, text);
            CHECK.argument("turner " + text, () -> y.turner());
            due("fault of " + text, y.fault(), one[1]);
            due("count behind " + text, y.count(4), 0);
            due("tape behind " + text, y.end(1), false);
        }
    }

    private static void promise6Claim() {
        KnobEye x = new KnobEye();
        Check.rule(x, "even");
        Check.put(x, "cards < 1");
        CHECK.index("no such eye", () -> x.claim(0, 0));
        due("the tape was used up", x.end(1), false);
        x.eye();
        Check.put(x, "cards < 1");
        CHECK.index("no such rule", () -> x.claim(0, 1));
        Check.put(x, "cards < 1");
        CHECK.index("rule NONE", () -> x.claim(0, NONE));
        Check.put(x, "cards <");
        CHECK.index("no such eye ahead of a wrong text", () -> x.claim(1, 0));
        due("its fault all the same", x.fault(), 7);
        Check.put(x, "cards <");
        CHECK.argument("a wrong text", () -> x.claim(0, 0));
        due("its fault", x.fault(), 7);
        String[] good = {"cards < 1", "not blind", "right + unseen > shown + 2 * knobs", "(blind)", " blind or blind ", "1 < 2"};
        for (int n = 0; n < good.length; n++) {
            due("claim " + good[n], Check.claim(x, 0, 0, good[n]), n);
        }
        due("count", x.count(5), 6);
        Check.put(x, "1 < 2");
        CHECK.unsupported("a seventh", () -> x.claim(0, 0));
        due("of a good text", x.fault(), NONE);
        Check.put(x, "1 < even");
        CHECK.argument("a seventh that is wrong", () -> x.claim(0, 0));
        due("its fault", x.fault(), 4);
        Check.put(x, "1 < 2");
        CHECK.index("a seventh of no eye", () -> x.claim(-1, 0));
        Object[][] wrong = {{"", 0}, {"right", 5}, {"even", 0}, {"wrong", 0}, {"lit < 1", 0}, {"far < 1", 0}, {"value < 1", 0},
            {"c 1", 0}, {"blind blind", 6}, {"blind < 1", 6}, {"cards > 10000", 8}, {"not not not not not not not blind", 24}};
        for (Object[] one : wrong) {
            KnobEye y = new KnobEye();
            Check.rule(y, "even");
            y.eye();
            Check.put(y, (String) one[0]);
            CHECK.argument("claim " + one[0], () -> y.claim(0, 0));
            due("fault of " + one[0], y.fault(), one[1]);
            due("count behind " + one[0], y.count(5), 0);
        }
    }

    private static void promise7Fault() {
        KnobEye x = new KnobEye();
        due("ahead of any", x.fault(), NONE);
        Check.put(x, "even +");
        due("ahead of reading", x.fault(), NONE);
        CHECK.argument("rule", () -> x.rule());
        due("of a rule", x.fault(), 5);
        Check.put(x, "turn x");
        due("the latest that was read", x.fault(), 5);
        CHECK.argument("turner", () -> x.turner());
        due("of a turner alike", x.fault(), 5);
        Check.put(x, "line");
        CHECK.argument("turner", () -> x.turner());
        due("of another one", x.fault(), 4);
        due("a right one", Check.turner(x, "line 1"), 0);
        due("has none", x.fault(), NONE);
        Check.put(x, "x");
        CHECK.argument("rule", () -> x.rule());
        x.image();
        Check.rule(x, "even");
        x.back();
        due("an image leaves it", x.fault(), NONE);
    }

    /** Of each text: cards that are right as yes, then NONE, then cards that are not. */
    private static void promise8Right() {
        Object[][] rules = {
            {"piece", new int[] {1, 3, 17, 0x8000, 0x00F0, 0xFFFF, 0x1111, 0x0033, 0x0136}, new int[] {0, 5, 24, 9, 33, 0x18, 0x8001}},
            {"even", new int[] {0, 3, 0x8001, 0xFFFF}, new int[] {1, 7, 0x8000}},
            {"c 0", new int[] {1, 3}, new int[] {0, 2, 0xFFFE}},
            {"c 15", new int[] {0x8000, 0xFFFF}, new int[] {0, 0x7FFF}},
            {"c0007", new int[] {0x80}, new int[] {0x40}},
            {"lit > 2", new int[] {7, 0xFFFF}, new int[] {0, 3}},
            {"lit < 2", new int[] {0, 1, 0x8000}, new int[] {3}},
            {"left > 0", new int[] {1, 2, 16, 0x2000}, new int[] {0, 4, 8, 0xCCCC}},
            {"right > 0", new int[] {4, 8, 0x8000}, new int[] {0, 1, 2, 0x3333}},
            {"left > 7", new int[] {0x3333}, new int[] {0x3332, 0xCCCF}},
            {"right > 7", new int[] {0xCCCC}, new int[] {0xCCC8, 0x3333}},
            {"up > 0", new int[] {1, 0x80}, new int[] {0x100, 0xFF00}},
            {"up > 7", new int[] {0xFF}, new int[] {0xFFFE}},
            {"rows > 1", new int[] {0x11, 0x8001}, new int[] {0, 15, 0xF000}},
            {"rows < 4", new int[] {0, 0x0FFF, 0xFF0F}, new int[] {0x1248, 0xFFFF}},
            {"0 < lit", new int[] {1}, new int[] {0}},
            {"lit + 2 * rows + 3 > 2 * up + 5", new int[] {0x100, 0xFFFF}, new int[] {0, 1}},
            {"10 * lit > 9999", new int[0], new int[] {0xFFFF}},
            {"9999 * lit + 9999 * lit > 9999", new int[] {1}, new int[] {0}},
            // and binds closer than or, not closer than and
            {"c 0 or c 1 and c 2", new int[] {1, 6, 7}, new int[] {0, 2, 4}},
            {"c 0 and c 1 or c 2", new int[] {3, 4}, new int[] {1, 2}},
            {"(c 0 or c 1) and c 2", new int[] {5, 6}, new int[] {1, 2, 4}},
            {"not c 0 and c 1", new int[] {2}, new int[] {0, 1, 3}},
            {"not (c 0 and c 1)", new int[] {0, 1, 2}, new int[] {3}},
            {"not not c 0", new int[] {1}, new int[] {0}},
            {"not lit < 3", new int[] {7}, new int[] {0, 3}},
            {"c 0 or c 1 or c 2", new int[] {1, 2, 4}, new int[] {0, 8}},
            {"c 0 and c 1 and c 2", new int[] {7}, new int[] {3, 5, 6}},
            {"((((((c 0))))))", new int[] {1}, new int[] {0}},
            {"not(not(not(c 0)and c 1))or(((((not c 2)))))", new int[] {0, 3, 6}, new int[] {4, 5, 7}},
            {"not(not(not c 0))", new int[] {0}, new int[] {1}},
        };
        for (Object[] one : rules) {
            KnobEye x = new KnobEye();
            Check.rule(x, (String) one[0]);
            for (int lit : (int[]) one[1]) {
                due(one[0] + " of " + lit, x.right(0, lit), true);
            }
            for (int lit : (int[]) one[2]) {
                due(one[0] + " of " + lit, x.right(0, lit), false);
            }
        }
        KnobEye x = new KnobEye();
        Check.rule(x, "even");
        CHECK.index("right -1", () -> x.right(-1, 0));
        CHECK.index("right 1", () -> x.right(1, 0));
        CHECK.index("right 1 of no card", () -> x.right(1, 65536));
        CHECK.argument("right of 65536", () -> x.right(0, 65536));
        CHECK.argument("right of -1", () -> x.right(0, -1));
        CHECK.argument("right of MIN", () -> x.right(0, Integer.MIN_VALUE));
        due("right of 65535", x.right(0, 65535), true);
        bigNumbers();
    }

    /** So many times 9999 * far is more than an int holds. */
    private static void bigNumbers() {
        KnobEye x = new KnobEye();
        StringBuilder text = new StringBuilder("turn 1 if 9999*far");
        for (int n = 0; n < 30; n++) {
            text.append("+9999*far");
        }
        text.append(">1");
        due("a long text", Check.turner(x, text.toString()), 0);
        x.eye();
        x.wire(0, 65535, 0);
        x.knob(0, 0, 200);
        x.knob(0, NONE, -2000);
        x.stuck(0, 64, 0);
        // far is 2 * 200 * 16 + 2000 = 8400: 31 * 9999 * 8400 is 2603739600, which as an int is below 0
        x.wire(0, 65535, 0);
        x.knob(0, 1, 200);
        x.card(65535, false);
        due("shown", x.show(0, 0, 0), true);
        due("far counts in full", x.look(0, 0), 184);
    }
}
