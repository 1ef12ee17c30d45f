/** The boundary sentences of promises 1 to 8 and of the texts, one test each: just inside, just outside, empty, full, refused. */
public final class TextBoundsTest {
    private static final Check CHECK = new Check("TextBoundsTest");
    private static final int NONE = KnobEye.NONE;
    private static final String TEN_LINES = "turn 1;line 1;turn 1;line 1;turn 1;line 1;turn 1;line 1;turn 1;line 1";

    public static void main(String[] args) {
        newWithoutRules();
        newWithoutCards();
        newWithoutEyes();
        newWithoutTurners();
        newWithoutClaims();
        newWithoutTape();
        feedTo400();
        feedBeyond400ByOne();
        feedHighestFirst();
        feedBytesBeyond127();
        feedBehindUsedUp();
        endOfEmpty();
        endOfFull();
        endBelow0();
        endCutsForGood();
        rulesAreFour();
        turnersAreFour();
        claimsAreSix();
        tapeIsUsedUp();
        textOf400();
        textOf400Things();
        numberOfFourDigits();
        numberOfFiveDigits();
        numberOfNone();
        cellTo15();
        turnTo50();
        sixDeep();
        sixDeepWithAllInEach();
        seventhDeep();
        besideIsNotDeeper();
        wordsFromAToZ();
        blanksAre32();
        firstWrongOfMany();
        moreMustCome();
        emptyText();
        tenLines();
        eleventhLine();
        wordsOfOtherTexts();
        faultAheadOfAny();
        faultOfTheLatest();
        faultOfTheRefused();
        rightOnAllBits();
        piecesDoNotWrap();
        piecesOfThree();
        leftUpAndRowsAtTheirEdges();
        sumsAtTheirEdges();
        CHECK.end();
    }

    private static void due(String what, Object got, Object want) {
        CHECK.due(what, got, want);
    }

    private interface Reading {
        int of(KnobEye x);
    }

    /** The first wrong byte of a text, NONE of a right one; that a wrong one is refused, and leaves no number. */
    private static int faultOf(String text, int what, Reading reading) {
        KnobEye x = new KnobEye();
        if (what == 5) {
            x.eye();
            Check.rule(x, "even");
        }
        Check.put(x, text);
        int number = NONE;
        try {
            number = reading.of(x);
        } catch (IllegalArgumentException e) {
            due("none came of " + text, x.count(what), 0);
            due("a fault of " + text, x.fault() != NONE, true);
        }
        due("number and fault of " + text, x.fault() == NONE, number == 0);
        due("used up: " + text, x.end(1), false);
        return x.fault();
    }

    private static void dueRule(String text, int fault) {
        due("fault of rule " + text, faultOf(text, 0, x -> x.rule()), fault);
    }

    private static void dueTurner(String text, int fault) {
        due("fault of turner " + text, faultOf(text, 4, x -> x.turner()), fault);
    }

    private static void dueClaim(String text, int fault) {
        due("fault of claim " + text, faultOf(text, 5, x -> x.claim(0, 0)), fault);
    }

    /** A text of a C that is wrong, or right, wherever a C may stand. */
    private static void dueAnywhere(String text, int fault) {
        dueRule(text, fault);
        dueClaim(text, fault);
        dueTurner("turn 1 if " + text, fault == NONE ? NONE : 10 + fault);
    }

    // ---- promise 1

    private static void newWithoutRules() {
        KnobEye x = new KnobEye();
        due("rules", x.count(0), 0);
        CHECK.index("right", () -> x.right(0, 0));
        CHECK.index("made", () -> x.made(0, 0));
        CHECK.index("mend", () -> x.mend(0, 0));
        due("the first rule", Check.rule(x, "even"), 0);
        due("it is there", x.right(0, 0), true);
        CHECK.index("one alone", () -> x.right(1, 0));
    }

    private static void newWithoutCards() {
        KnobEye x = new KnobEye();
        due("cards", x.count(1), 0);
        due("yes cards", x.count(2), 0);
        due("away", x.away(), NONE);
        due("cloud", x.cloud(), NONE);
        for (int cell = 0; cell < 16; cell++) {
            due("along", x.along(cell), 0);
        }
        due("the first card", x.card(0, true), 0);
    }

    private static void newWithoutEyes() {
        KnobEye x = new KnobEye();
        due("eyes", x.count(3), 0);
        due("wires", x.count(7), 0);
        due("layer", x.layer(), NONE);
        due("together", x.together(1, 65535), false);
        CHECK.index("look", () -> x.look(0, 7));
        CHECK.index("wire", () -> x.wire(0, 1, 0));
        CHECK.index("bear", () -> x.bear(0));
        due("the first eye", x.eye(), 0);
        due("the first wire", x.wire(0, 1, 0), 0);
    }

    private static void newWithoutTurners() {
        KnobEye x = new KnobEye();
        due("turners", x.count(4), 0);
        x.eye();
        x.card(0, false);
        CHECK.index("show", () -> x.show(0, 0, 0));
        CHECK.index("turned", () -> x.turned(0, 0, 1));
        CHECK.index("soonest", () -> x.soonest(0, 0));
        due("the first turner", Check.turner(x, ""), 0);
        due("it is there", x.show(0, 0, 0), false);
    }

    private static void newWithoutClaims() {
        KnobEye x = new KnobEye();
        due("claims", x.count(5), 0);
        due("claims that hold", x.count(6), 0);
        CHECK.index("holds", () -> x.holds(0));
        x.eye();
        Check.rule(x, "even");
        due("the first claim", Check.claim(x, 0, 0, "1 < 2"), 0);
        due("it is there", x.holds(0), true);
    }

    private static void newWithoutTape() {
        KnobEye x = new KnobEye();
        due("no byte", x.end(1), false);
        due("no image", x.back(), false);
        due("no fault", x.fault(), NONE);
    }

    // ---- promise 2

    private static void feedTo400() {
        KnobEye x = new KnobEye();
        for (int n = 20; n <= 400; n += 20) {
            due("feed to " + n, x.feed(0x20202020, 0x20202020, 0x20202020, 0x20202020, 0x20202020), n);
        }
        due("full", x.feed(0, 0, 0, 0, 0), NONE);
        due("still", x.feed(0, 0, 0, 0, 0), NONE);
        due("all 400", x.end(400), true);
        due("blanks alone, none came", x.turner(), 0);
        due("empty again", x.feed(0, 0, 0, 0, 0), 20);
    }

    private static void feedBeyond400ByOne() {
        KnobEye x = new KnobEye();
        Check.put(x, "even" + " ".repeat(377));
        due("to 401", x.feed(0x2A2A2A2A, 0x2A2A2A2A, 0x2A2A2A2A, 0x2A2A2A2A, 0x2A2A2A2A), NONE);
        due("381 still", x.end(382), false);
        due("none came", x.rule(), 0);
        Check.put(x, "even" + " ".repeat(376));
        due("to 400", x.feed(0x2A2A2A2A, 0x2A2A2A2A, 0x2A2A2A2A, 0x2A2A2A2A, 0x2A2A2A2A), 400);
        CHECK.argument("they came", () -> x.rule());
        due("behind the 380", x.fault(), 380);
    }

    private static void feedHighestFirst() {
        KnobEye x = new KnobEye();
        due("twenty", x.feed(0x286C6974, 0x203C2034, 0x29616E64, 0x286C6674, 0x203E2031), 20);
        x.end(0);
        // "(lit < 4)and(c 1    ": each number's highest byte first, the fifth number last
        x.feed(0x286C6974, 0x203C2034, 0x29616E64, 0x28632031, 0x20202029);
        due("in this order", x.rule(), 0);
        due("c 1, few lit", x.right(0, 2), true);
        due("many lit", x.right(0, 15), false);
    }

    private static void feedBytesBeyond127() {
        KnobEye x = new KnobEye();
        x.feed(0x65766580, 0, 0, 0, 0);
        x.end(4);
        CHECK.argument("byte 128", () -> x.rule());
        due("eve is a word that is none", x.fault(), 0);
        x.feed(0x6576656E, 0x80000000, 0, 0, 0);
        x.end(5);
        CHECK.argument("byte 128 behind", () -> x.rule());
        due("it is not a blank", x.fault(), 4);
        x.feed(-1, -1, -1, -1, -1);
        CHECK.argument("byte 255", () -> x.turner());
        due("at once", x.fault(), 0);
        x.feed(0x6576656E, 0xA0202020, 0, 0, 0);
        x.end(8);
        CHECK.argument("byte 160", () -> x.rule());
        due("it is no blank either", x.fault(), 4);
    }

    private static void feedBehindUsedUp() {
        KnobEye x = new KnobEye();
        Check.put(x, "x".repeat(400));
        CHECK.argument("400 bytes", () -> x.rule());
        due("fault", x.fault(), 0);
        due("there is room again", x.feed(0x6576656E, 0x20202020, 0x20202020, 0x20202020, 0x20202020), 20);
        due("nothing of the former", x.rule(), 0);
    }

    // ---- promise 3

    private static void endOfEmpty() {
        KnobEye x = new KnobEye();
        due("end 0 of none", x.end(0), true);
        due("end 1 of none", x.end(1), false);
        due("end 400 of none", x.end(400), false);
        due("end MAX of none", x.end(Integer.MAX_VALUE), false);
    }

    private static void endOfFull() {
        KnobEye x = new KnobEye();
        Check.put(x, " ".repeat(400));
        due("end 401", x.end(401), false);
        due("end MAX", x.end(Integer.MAX_VALUE), false);
        due("end 400", x.end(400), true);
        due("end 399", x.end(399), true);
        due("end 400 then", x.end(400), false);
        due("end 0", x.end(0), true);
        due("end 1 then", x.end(1), false);
        due("20 more", x.feed(0, 0, 0, 0, 0), 20);
    }

    private static void endBelow0() {
        KnobEye x = new KnobEye();
        Check.put(x, "even");
        due("end -1", x.end(-1), false);
        due("end MIN", x.end(Integer.MIN_VALUE), false);
        due("end 5", x.end(5), false);
        due("nothing happened", x.rule(), 0);
        due("even", x.right(0, 3), true);
    }

    private static void endCutsForGood() {
        KnobEye x = new KnobEye();
        Check.put(x, "even or c 0");
        due("its first 4", x.end(4), true);
        due("behind these come others", x.feed(0x206F7220, 0x63203120, 0x20202020, 0x20202020, 0x20202020), 24);
        due("even or c 1", x.rule(), 0);
        due("c 1", x.right(0, 2), true);
        due("not c 0", x.right(0, 1), false);
    }

    // ---- promises 4 to 6: how many, and the TAPE

    private static void rulesAreFour() {
        KnobEye x = new KnobEye();
        for (int n = 0; n < 4; n++) {
            due("rule", Check.rule(x, "c " + n), n);
        }
        Check.put(x, "c 4");
        CHECK.unsupported("a fifth", () -> x.rule());
        due("four", x.count(0), 4);
        for (int n = 0; n < 4; n++) {
            due("each as it was", x.right(n, 1 << n), true);
            due("each as it was, of the next", x.right(n, 16 >> n & ~(1 << n)), false);
        }
        CHECK.index("a fifth", () -> x.right(4, 16));
    }

    private static void turnersAreFour() {
        KnobEye x = new KnobEye();
        x.eye();
        x.wire(0, 1, 0);
        x.card(1, true);
        for (int n = 0; n < 4; n++) {
            due("turner", Check.turner(x, "turn " + (n + 1)), n);
        }
        Check.put(x, "turn 50");
        CHECK.unsupported("a fifth", () -> x.turner());
        due("four", x.count(4), 4);
        CHECK.index("a fifth", () -> x.show(0, 0, 4));
        for (int n = 0; n < 4; n++) {
            x.knob(0, 0, 0);
            x.show(0, 0, n);
            due("each as it was", x.look(0, 0), n + 1);
        }
    }

    private static void claimsAreSix() {
        KnobEye x = new KnobEye();
        x.eye();
        Check.rule(x, "even");
        for (int n = 0; n < 6; n++) {
            due("claim", Check.claim(x, 0, 0, n + " < 3"), n);
        }
        Check.put(x, "1 < 2");
        CHECK.unsupported("a seventh", () -> x.claim(0, 0));
        due("six", x.count(5), 6);
        due("three hold", x.count(6), 3);
        CHECK.index("a seventh", () -> x.holds(6));
        for (int n = 0; n < 6; n++) {
            due("each as it was", x.holds(n), n < 3);
        }
    }

    private static void tapeIsUsedUp() {
        KnobEye x = new KnobEye();
        x.eye();
        Check.rule(x, "even");
        due("by a rule", x.end(1), false);
        Check.put(x, "even even");
        CHECK.argument("wrong", () -> x.rule());
        due("by a wrong rule", x.end(1), false);
        Check.turner(x, "turn 1");
        due("by a turner", x.end(1), false);
        Check.put(x, "turn");
        CHECK.argument("wrong", () -> x.turner());
        due("by a wrong turner", x.end(1), false);
        Check.claim(x, 0, 0, "blind");
        due("by a claim", x.end(1), false);
        Check.put(x, "not");
        CHECK.argument("wrong", () -> x.claim(0, 0));
        due("by a wrong claim", x.end(1), false);
        Check.put(x, "blind");
        CHECK.index("of no eye", () -> x.claim(1, 0));
        due("by a claim of no eye", x.end(1), false);
        Check.put(x, "blind");
        CHECK.index("of no rule", () -> x.claim(0, 1));
        due("by a claim of no rule", x.end(1), false);
        due("none of these came", x.count(0) + x.count(4) + x.count(5), 3);
        due("what is fed then stands alone", Check.rule(x, "c 1"), 1);
        due("c 1", x.right(1, 2), true);
    }

    // ---- the texts

    private static void textOf400() {
        dueRule(" ".repeat(396) + "even", NONE);
        dueRule("even" + " ".repeat(396), NONE);
        dueRule(" ".repeat(396) + "eve ", 396);
        dueRule(" ".repeat(395) + "even)", 399);
        dueRule(" ".repeat(393) + "even or", 400);
        dueTurner(" ".repeat(394) + "turn 1", NONE);
        dueTurner(" ".repeat(393) + "turn 1;", 400);
        dueClaim(" ".repeat(395) + "blind", NONE);
        dueClaim(" ".repeat(397) + "not", 400);
    }

    private static void textOf400Things() {
        dueAnywhere("(".repeat(390), 6);
        dueRule("(".repeat(400), 6);
        dueRule(")".repeat(400), 0);
        dueRule("1".repeat(400), 0);
        dueRule("a".repeat(400), 0);
        dueRule("1<" + "1+".repeat(198) + "1", NONE);
        dueRule("1<" + "1+".repeat(199), 400);
        dueRule("c1 or ".repeat(66) + "even", NONE);
        dueRule("c1 or ".repeat(66) + "c 16", 398);
        dueTurner(";".repeat(400), 0);
    }

    private static void numberOfFourDigits() {
        for (String number : new String[] {"0", "9", "10", "999", "9999", "0000", "0001"}) {
            dueAnywhere(number + " < 1", NONE);
            dueAnywhere("1 > " + number, NONE);
        }
        dueRule("9999*lit+9999<9999", NONE);
        dueClaim("9999*cards+9999<9999", NONE);
        KnobEye x = new KnobEye();
        Check.rule(x, "9999 > 9998 and 9998 < 9999 and 0009 > 8 and not 0000 > 0 and not 0 < 0000");
        due("each counts in full", x.right(0, 0), true);
    }

    private static void numberOfFiveDigits() {
        for (String number : new String[] {"10000", "00000", "00001", "99999", "123456789012345678901234567890"}) {
            dueAnywhere(number + " < 1", 0);
            dueAnywhere("1 > " + number, 4);
            dueAnywhere("1 + " + number + " > 1", 4);
            dueTurner("turn " + number, 5);
            dueTurner("line " + number, 5);
            dueRule("c " + number, 2);
        }
        dueRule(" 00000 * lit < 1", 1);
    }

    private static void numberOfNone() {
        dueAnywhere("1 <", 3);
        dueAnywhere("1 < ", 4);
        dueAnywhere("1 < -1", 4);
        dueAnywhere("1 < +1", 4);
        dueAnywhere("1 < x", 4);
        dueTurner("turn", 4);
        dueTurner("turn -1", 5);
        dueTurner("line if wrong", 5);
        dueRule("c", 1);
        dueRule("c  ", 3);
        dueRule("c -1", 2);
        dueRule("c lit", 2);
    }

    private static void cellTo15() {
        for (int cell = 0; cell < 16; cell++) {
            KnobEye x = new KnobEye();
            Check.rule(x, "c " + cell);
            due("c " + cell, x.right(0, 1 << cell), true);
            due("no other one", x.right(0, 65535 - (1 << cell)), false);
        }
        for (String right : new String[] {"c0", "c15", "c 15", "c 015", "c 0015", "c 0000"}) {
            dueRule(right, NONE);
        }
        for (String wrong : new String[] {"c 16", "c 0016", "c 99", "c 9999"}) {
            dueRule(wrong, 2);
        }
        dueRule("c16", 1);
        dueRule("c 1 6", 4);
    }

    private static void turnTo50() {
        for (String right : new String[] {"0", "1", "49", "50", "0050"}) {
            dueTurner("turn " + right, NONE);
            dueTurner("line " + right + " if yes", NONE);
        }
        for (String wrong : new String[] {"51", "0051", "100", "9999"}) {
            dueTurner("turn " + wrong, 5);
            dueTurner("line " + wrong, 5);
            dueTurner("turn 1; line " + wrong + " if yes", 13);
        }
        KnobEye x = new KnobEye();
        x.eye();
        x.wire(0, 1, 0);
        x.card(1, true);
        Check.turner(x, "turn 0; line 0");
        Check.turner(x, "turn 50; line 50");
        x.show(0, 0, 0);
        due("by 0", x.look(0, 0) - x.look(0, 6), 0);
        x.show(0, 0, 1);
        due("a knob by 50", x.look(0, 0), 50);
        due("the line by 50", x.look(0, 6), -50);
    }

    private static void sixDeep() {
        dueAnywhere("((((((1<2))))))", NONE);
        dueAnywhere("not not not not not not 1<2", NONE);
        dueAnywhere("not(not(not(1<2)))", NONE);
        dueAnywhere("(((not not not 1<2)))", NONE);
        dueAnywhere("1<2 and(1<2 or(1<2 and(1<2 or(1<2 and(1<2 or(1<2 and 1<2))))))", NONE);
        KnobEye x = new KnobEye();
        Check.rule(x, "not not not not not not c 0");
        Check.rule(x, "not not not not not c 0");
        Check.rule(x, "((((((c 0))))))");
        Check.rule(x, "not(not(not(c 0)))");
        for (int rule = 0; rule < 4; rule++) {
            due("lit by " + rule, x.right(rule, 1), rule % 2 == 0);
            due("not lit by " + rule, x.right(rule, 0), rule % 2 == 1);
        }
    }

    /** An or, an and and a ( in each: what stands innermost decides. */
    private static void sixDeepWithAllInEach() {
        String text = "c0 or c1 and(".repeat(6) + "c0 or c1 and c2" + ")".repeat(6);
        dueRule(text, NONE);
        dueRule("c0 or c1 and(" + text + ")", 12 + 6 * 13);
        KnobEye x = new KnobEye();
        Check.rule(x, text);
        due("c 0", x.right(0, 1), true);
        due("c 1 alone", x.right(0, 2), false);
        due("c 1 and c 2", x.right(0, 6), true);
        due("c 2 alone", x.right(0, 4), false);
    }

    private static void seventhDeep() {
        dueAnywhere("(((((((1<2)))))))", 6);
        dueAnywhere("not not not not not not not 1<2", 24);
        dueAnywhere("not(not(not(not 1<2)))", 12);
        dueAnywhere("((((((not 1<2))))))", 6);
        dueAnywhere("(((not not not(1<2))))", 14);
        dueAnywhere("1<2 and ((((((1<2 or not 1<2))))))", 21);
        dueAnywhere("not not not not not not (", 24);
        dueAnywhere("((((((", 6);
        dueAnywhere("(((((( ", 7);
    }

    private static void besideIsNotDeeper() {
        String deep = "((((((1<2))))))";
        dueAnywhere(deep + " and " + deep + " or " + deep, NONE);
        dueAnywhere(deep + "and not(((not not 1<2)))", NONE);
        dueAnywhere(deep + "and not((((not not 1<2))))", 30);
        dueAnywhere("not 1<2 or not 1<2 and not 1<2 or not 1<2 and not 1<2 or not 1<2 and not 1<2 or not 1<2", NONE);
        dueAnywhere("(1<2)and(1<2)and(1<2)and(1<2)and(1<2)and(1<2)and(1<2)and(1<2)", NONE);
        dueAnywhere("(((((not 1<2 and not 1<2)or(1<2)))))", NONE);
        dueAnywhere("(((((not 1<2 and not 1<2)))))or(((((not 1<2)))))", NONE);
    }

    private static void wordsFromAToZ() {
        dueRule("even", NONE);
        dueRule("evena", 0);
        dueRule("evenz", 0);
        dueRule("aeven", 0);
        dueRule("zeven", 0);
        dueRule("even`", 4);
        dueRule("even{", 4);
        dueRule("evenA", 4);
        dueRule("evenZ", 4);
        dueRule("EVEN", 0);
        dueRule("even0", 4);
        dueRule("not0<lit", NONE);
        dueRule("lit<3and even", NONE);
        dueRule("lit<3andeven", 5);
        dueRule("notnot even", 0);
        dueRule("not(even)and(even)or(c1)", NONE);
        dueRule("lit 0 < 1", 4);
        dueRule("0lit < 1", 1);
        dueRule("0*lit<1/", 7);
        dueRule("0*lit<1:", 7);
    }

    private static void blanksAre32() {
        dueRule("  even  ", NONE);
        dueRule(" ( c 1 and not ( lit + 2 * up < 3 ) ) ", NONE);
        dueRule("(c1and not(lit+2*up<3))", NONE);
        dueTurner("  turn  1  if  wrong  ;  line  1  ", NONE);
        dueTurner("turn1if wrong;line1", NONE);
        dueClaim(" not  blind ", NONE);
        for (char other : new char[] {0, 9, 10, 13, 31, 33, 127, 128, 160, 255}) {
            dueRule("even" + other, 4);
            dueRule(other + "even", 0);
            dueRule("not" + other + "even", 3);
            dueTurner("turn 1" + other, 6);
            dueTurner("" + other, 0);
            dueClaim("blind" + other, 5);
        }
        dueRule("ev en", 0);
        dueRule("lit < 1 0", 8);
        dueRule("lit < < 1", 6);
    }

    private static void firstWrongOfMany() {
        dueRule("c 16 or c 17 or", 2);
        dueRule("even even )", 5);
        dueRule("(even or c 16", 11);
        dueTurner("turn 51; line 51", 5);
        dueTurner("turn 1 if x; x", 10);
        dueClaim("cards < 10000 and x", 8);
        dueRule("( ( ( ( ( ( x ( (", 12);
    }

    private static void moreMustCome() {
        dueAnywhere("not", 3);
        dueAnywhere("not ", 4);
        dueAnywhere("(", 1);
        dueAnywhere("(1<2", 4);
        dueAnywhere("1<2 or", 6);
        dueAnywhere("1<2 and  ", 9);
        dueAnywhere("1", 1);
        dueAnywhere("1 + ", 4);
        dueAnywhere("1 *", 3);
        dueRule("lit", 3);
        dueTurner("turn 1 if", 9);
        dueTurner("turn 1;", 7);
        dueTurner("turn 1 ; ", 9);
    }

    private static void emptyText() {
        dueRule("", 0);
        dueRule(" ", 1);
        dueRule("   ", 3);
        dueRule(" ".repeat(400), 400);
        dueClaim("", 0);
        dueClaim("  ", 2);
        dueTurner("", NONE);
        dueTurner(" ", NONE);
        dueTurner(" ".repeat(400), NONE);
        dueTurner(";", 0);
        dueTurner(" ;", 1);
        KnobEye x = new KnobEye();
        x.eye();
        x.wire(0, 1, 0);
        x.card(1, true);
        Check.turner(x, "");
        Check.turner(x, "  ");
        due("wrong by no LINE", x.show(0, 0, 0), true);
        due("wrong by blanks", x.show(0, 0, 1), true);
        due("none turned", x.look(0, 0) + x.look(0, 6), 0);
    }

    private static void tenLines() {
        dueTurner(TEN_LINES, NONE);
        dueTurner(TEN_LINES + "  ", NONE);
        KnobEye x = new KnobEye();
        x.eye();
        x.wire(0, 1, 0);
        x.card(1, true);
        String nine = "turn 1 if not yes;".repeat(9);
        due("ten", Check.turner(x, nine + "turn 7"), 0);
        x.show(0, 0, 0);
        due("the tenth turns", x.look(0, 0), 7);
    }

    private static void eleventhLine() {
        dueTurner(TEN_LINES + ";turn 1", 70);
        dueTurner(TEN_LINES + ";line 1", 70);
        dueTurner(TEN_LINES + "  ;  line 1", 74);
        dueTurner(TEN_LINES + ";x", 70);
        dueTurner(TEN_LINES + ";turn 1;turn 1", 70);
        dueTurner(TEN_LINES + ";", 70);
        dueTurner(TEN_LINES + ";  ", 72);
        dueTurner(TEN_LINES.substring(0, 62) + "; turn 51; turn 1", 69);
        dueTurner(TEN_LINES + " turn 1", 70);
    }

    private static void wordsOfOtherTexts() {
        String[] rules = {"piece", "even", "c 1", "lit < 1", "left < 1", "up < 1", "rows < 1"};
        String[] turners = {"wrong", "yes", "far < 1", "value < 1", "knob < 1"};
        String[] claims = {"blind", "cards < 1", "unseen < 1", "knobs < 1"};
        for (String text : rules) {
            dueRule(text, NONE);
            dueTurner("turn 1 if " + text, 10);
            dueClaim(text, 0);
        }
        for (String text : turners) {
            dueRule(text, 0);
            dueTurner("turn 1 if " + text, NONE);
            dueClaim(text, 0);
        }
        for (String text : claims) {
            dueRule(text, 0);
            dueTurner("turn 1 if " + text, 10);
            dueClaim(text, NONE);
        }
        dueRule("right < 1", NONE);
        dueClaim("right < 1", NONE);
        dueTurner("turn 1 if right < 1", 10);
        dueRule("shown < 1", 0);
        dueClaim("shown < 1", NONE);
        dueTurner("turn 1 if shown < 1", NONE);
        dueRule("turn 1", 0);
        dueRule("even; even", 4);
        dueRule("even if even", 5);
        dueTurner("even", 0);
    }

    // ---- promise 7

    private static void faultAheadOfAny() {
        KnobEye x = new KnobEye();
        due("new", x.fault(), NONE);
        Check.put(x, "x");
        x.end(2);
        x.end(-1);
        due("a text that was not read", x.fault(), NONE);
        CHECK.index("a call that reads none", () -> x.right(0, 0));
        due("then", x.fault(), NONE);
    }

    private static void faultOfTheLatest() {
        KnobEye x = new KnobEye();
        Check.put(x, " x");
        CHECK.argument("rule", () -> x.rule());
        due("1", x.fault(), 1);
        due("asked again", x.fault(), 1);
        Check.put(x, "turn");
        due("not read yet", x.fault(), 1);
        CHECK.argument("turner", () -> x.turner());
        due("4", x.fault(), 4);
        CHECK.argument("none on the tape", () -> x.rule());
        due("0", x.fault(), 0);
        due("an empty turner", x.turner(), 0);
        due("none", x.fault(), NONE);
        CHECK.argument("none on the tape", () -> x.rule());
        x.image();
        x.back();
        due("the image leaves it", x.fault(), 0);
    }

    private static void faultOfTheRefused() {
        KnobEye x = new KnobEye();
        for (int n = 0; n < 4; n++) {
            Check.rule(x, "even");
            Check.turner(x, "");
        }
        Check.put(x, "even x");
        CHECK.argument("a wrong fifth", () -> x.rule());
        due("its fault", x.fault(), 5);
        Check.put(x, "even");
        CHECK.unsupported("a right fifth", () -> x.rule());
        due("no fault", x.fault(), NONE);
        Check.put(x, "turn 1 x");
        CHECK.argument("a wrong fifth turner", () -> x.turner());
        due("its fault", x.fault(), 7);
        CHECK.unsupported("an empty fifth turner", () -> x.turner());
        due("no fault", x.fault(), NONE);
        Check.put(x, "not");
        CHECK.index("a wrong claim of no eye", () -> x.claim(0, 0));
        due("its fault", x.fault(), 3);
        Check.put(x, "blind");
        CHECK.index("a right claim of no eye", () -> x.claim(0, 0));
        due("no fault", x.fault(), NONE);
    }

    // ---- promise 8: what is right on cards at the edges

    private static void rightOnAllBits() {
        KnobEye x = new KnobEye();
        Check.rule(x, "1 < 2");
        due("card 0", x.right(0, 0), true);
        due("card 65535", x.right(0, 65535), true);
        for (int lit : new int[] {65536, 65537, 1 << 20, Integer.MAX_VALUE, -1, -65536, Integer.MIN_VALUE}) {
            CHECK.argument("card " + lit, () -> x.right(0, lit));
            CHECK.index("card " + lit + " by no rule", () -> x.right(1, lit));
        }
    }

    private static void piecesDoNotWrap() {
        KnobEye x = new KnobEye();
        Check.rule(x, "piece");
        due("none lit", x.right(0, 0), false);
        due("all lit", x.right(0, 65535), true);
        for (int cell = 0; cell < 16; cell++) {
            due("one lit", x.right(0, 1 << cell), true);
            for (int other = cell + 1; other < 16; other++) {
                due(cell + " and " + other, x.right(0, 1 << cell | 1 << other), beside(cell, other) == 1);
            }
        }
        due("a long way", x.right(0, 0b0111_1101_1101_1101), true);
        due("in two", x.right(0, 0b0011_1101_1101_1101), false);
        due("a snake", x.right(0, 0b1111_0001_1111_1000), true);
        due("a ring", x.right(0, 0b1111_1001_1001_1111), true);
        due("all but its way", x.right(0, 0b1111_0000_1111_1111), false);
        due("corners", x.right(0, 0b1001_0000_0000_1001), false);
    }

    /** Three cells hang together if two of their pairs do. */
    private static void piecesOfThree() {
        for (int first = 0; first < 14; first++) {
            KnobEye x = new KnobEye();
            Check.rule(x, "piece");
            for (int second = first + 1; second < 15; second++) {
                for (int third = second + 1; third < 16; third++) {
                    int pairs = beside(first, second) + beside(second, third) + beside(first, third);
                    String told = first + ", " + second + " and " + third;
                    due(told, x.right(0, 1 << first | 1 << second | 1 << third), pairs > 1);
                }
            }
        }
    }

    private static int beside(int cell, int other) {
        return Math.abs(cell % 4 - other % 4) + Math.abs(cell / 4 - other / 4) == 1 ? 1 : 0;
    }

    private static void leftUpAndRowsAtTheirEdges() {
        KnobEye x = new KnobEye();
        Check.rule(x, "left > 0");
        Check.rule(x, "right > 0");
        Check.rule(x, "up > 0");
        for (int cell = 0; cell < 16; cell++) {
            due("left: " + cell, x.right(0, 1 << cell), cell % 4 < 2);
            due("right: " + cell, x.right(1, 1 << cell), cell % 4 > 1);
            due("up: " + cell, x.right(2, 1 << cell), cell / 4 < 2);
        }
        KnobEye y = new KnobEye();
        Check.rule(y, "lit < 1 and left < 1 and right < 1 and up < 1 and rows < 1 and even and not piece");
        due("nothing lit", y.right(0, 0), true);
        Check.rule(y, "lit > 15 and left > 7 and right > 7 and up > 7 and rows > 3 and even and piece");
        due("all lit", y.right(1, 65535), true);
        Check.rule(y, "lit < 17 and left < 9 and right < 9 and up < 9 and rows < 5");
        due("no more", y.right(2, 65535), true);
        Check.rule(y, "rows > 0 and rows < 2");
        for (int row = 0; row < 4; row++) {
            due("one row", y.right(3, 15 << 4 * row), true);
            due("one row of one cell", y.right(3, 8 << 4 * row), true);
            due("three rows", y.right(3, 65535 - (15 << 4 * row)), false);
        }
        due("two rows", y.right(3, 0x18), false);
    }

    private static void sumsAtTheirEdges() {
        KnobEye x = new KnobEye();
        Check.rule(x, "lit < 3");
        Check.rule(x, "lit > 3");
        Check.rule(x, "lit + lit > left + right + 2 * up + 0 * rows");
        Check.rule(x, "9999 * lit + 9999 > 9999 * lit + 9998");
        due("2 < 3", x.right(0, 3), true);
        due("3 < 3", x.right(0, 7), false);
        due("3 > 3", x.right(1, 7), false);
        due("4 > 3", x.right(1, 15), true);
        due("more down than up", x.right(2, 0x101), false);
        due("more down by one", x.right(2, 0x301), true);
        due("of 16", x.right(3, 65535), true);
    }
}
