/** The boundary sentences of promises 20 to 40, one test each: just inside, just outside, empty, full, refused. */
public final class AskBoundsTest {
    private static final Check CHECK = new Check("AskBoundsTest");
    private static final int NONE = KnobEye.NONE;

    public static void main(String[] args) {
        kFrom1To3();
        canWithoutCards();
        canByK3Alone();
        canByAnyLine();
        canOfTwentyCards();
        foundLineWithoutNoCards();
        foundLineOfNoCardsAlone();
        foundLineWithoutCards();
        foundWithoutThatWire();
        foundIfItCannot();
        foundAnotherWhat();
        foundLeastOfSeveral();
        barsNone();
        barsTheSecond();
        barsTheTwentieth();
        boundNone();
        boundRoundedDown();
        boundAtItsMost();
        blindNone();
        blindFirstAndLastPair();
        blindFirstSuch();
        blindByRuleFirstAndLast();
        oddsOf0To16();
        oddsOfAll();
        coveredFirstAndLastCell();
        coveredOfTwenty();
        goesByNone();
        goesByFirstAndLastCell();
        alongNoneAndAll();
        cloudNone();
        cloudFirstAndLastCell();
        mendNoneNeeded();
        mendAtHalf();
        mendNoCardSo();
        mendOfTwenty();
        bearNone();
        bearFromNoneToAll();
        swappedFirstAndLastWire();
        soonestWithoutCards();
        soonestOfFiveAlone();
        soonestTenTimes();
        soonestLeavesTheEye();
        togetherOneToThree();
        layerNone();
        layerOneToThree();
        readK1And2();
        readLinesToNine();
        nextNone();
        nextOfOneEye();
        nextOfTwentyCards();
        nextFirstAndLast();
        holdsNoSuch();
        holdsUnseenBy656();
        holdsAtTheEdges();
        holdsNow();
        imageNoneKept();
        imageOfNothing();
        imageTheLatest();
        imageOfFull();
        imageButForTheTape();
        countAnotherWhat();
        countEmptyAndFull();
        CHECK.end();
    }

    private static void due(String what, Object got, Object want) {
        CHECK.due(what, got, want);
    }

    /** An eye with SUM wires of these cells. */
    private static KnobEye eye(int... wires) {
        KnobEye x = new KnobEye();
        x.eye();
        for (int cells : wires) {
            x.wire(0, cells, 0);
        }
        return x;
    }

    private static void cards(KnobEye x, int many, int lit, boolean yes) {
        for (int n = 0; n < many; n++) {
            x.card(lit, yes);
        }
    }

    private static void dueFound(KnobEye x, int k, int... want) {
        for (int what = 0; what < 8; what++) {
            due("found by " + k + ": " + what, x.found(0, k, what), want[what]);
        }
    }

    /** Of a, how many of cells 0 to 3, and b, cell 4: only a = - 1, b = 3 sees 2 a + b above 0 and above 3 a + b. */
    private static KnobEye onlyByThree() {
        KnobEye x = eye(15, 16);
        x.card(0, false);
        x.card(0b10011, true);
        x.card(0b10111, false);
        return x;
    }

    // ---- promises 20 and 21

    private static void kFrom1To3() {
        KnobEye x = eye(1);
        x.card(1, true);
        x.card(0, false);
        for (int k = 1; k <= 3; k++) {
            due("can by " + k, x.can(0, k), true);
            due("found by " + k, x.found(0, k, 0), 1);
            due("bars by " + k, x.bars(0, k), NONE);
            due("bound by " + k, x.bound(0, k), 10);
        }
        for (int n : new int[] {0, 4, -1, Integer.MAX_VALUE, Integer.MIN_VALUE}) {
            CHECK.argument("can by " + n, () -> x.can(0, n));
            CHECK.argument("found by " + n, () -> x.found(0, n, 0));
            CHECK.argument("bars by " + n, () -> x.bars(0, n));
            CHECK.argument("bound by " + n, () -> x.bound(0, n));
        }
    }

    private static void canWithoutCards() {
        due("without wires", eye().can(0, 1), true);
        due("with one", eye(65535).can(0, 3), true);
        KnobEye x = eye(1);
        x.card(1, true);
        x.card(1, false);
        due("one of each", x.can(0, 3), false);
        x.away();
        x.away();
        due("without cards again", x.can(0, 3), true);
    }

    private static void canByK3Alone() {
        KnobEye x = onlyByThree();
        due("by 1", x.can(0, 1), false);
        due("by 2", x.can(0, 2), false);
        due("by 3", x.can(0, 3), true);
        due("by 2 still", x.can(0, 2), false);
        dueFound(x, 2, 9999, 9999, 9999, 9999, 9999, 9999, 9999, 9999);
        dueFound(x, 3, -1, 3, 0, 0, 0, 0, 0, 4);
        due("bars by 2", x.bars(0, 2), 2);
        due("bars by 3", x.bars(0, 3), NONE);
        due("bound by 2", x.bound(0, 2), NONE);
        // M 1, A 1, R 9 + 1 + 1: 11 * (4 * 10 + 1)
        due("bound by 3", x.bound(0, 3), 451);
    }

    private static void canByAnyLine() {
        KnobEye x = eye(65535, 65535, 65535, 65535, 65535, 65535);
        x.card(65535, true);
        x.card(32767, false);
        x.card(0, false);
        x.knob(0, NONE, 2000);
        x.stuck(0, 127, 50);
        due("stuck, and its line far above", x.can(0, 1), true);
        dueFound(x, 1, 0, 0, 0, 0, 0, 1, 15, 1);
        due("it stays as it is", x.look(0, 6), 2000);
        KnobEye y = eye(65535);
        y.card(65535, false);
        y.card(32767, true);
        dueFound(y, 1, -1, 0, 0, 0, 0, 0, -16, 1);
    }

    private static void canOfTwentyCards() {
        KnobEye x = eye(1, 2, 4, 8, 16, 32);
        for (int n = 0; n < 19; n++) {
            x.card(n, n % 2 == 1);
        }
        due("nineteen", x.can(0, 1), true);
        x.card(19, true);
        due("twenty", x.can(0, 1), true);
        dueFound(x, 1, 1, 0, 0, 0, 0, 0, 0, 1);
        x.away();
        x.card(17, false);
        due("the twentieth against another", x.can(0, 3), false);
        dueFound(x, 3, 9999, 9999, 9999, 9999, 9999, 9999, 9999, 9999);
        CHECK.unsupported("a 21st", () -> x.card(0, false));
        due("behind the 21st", x.can(0, 3), false);
    }

    private static void foundLineWithoutNoCards() {
        KnobEye x = eye(65535);
        x.card(0, true);
        dueFound(x, 3, 0, 0, 0, 0, 0, 0, -1, 0);
        cards(x, 19, 65535, true);
        dueFound(x, 1, 0, 0, 0, 0, 0, 0, -1, 0);
        KnobEye y = eye();
        y.card(7, true);
        dueFound(y, 1, 0, 0, 0, 0, 0, 0, -1, 0);
    }

    private static void foundLineOfNoCardsAlone() {
        KnobEye x = eye(65535);
        cards(x, 20, 65535, false);
        dueFound(x, 3, 0, 0, 0, 0, 0, 0, 0, 0);
        KnobEye y = eye();
        y.card(7, false);
        dueFound(y, 1, 0, 0, 0, 0, 0, 0, 0, 0);
    }

    private static void foundLineWithoutCards() {
        dueFound(eye(), 1, 0, 0, 0, 0, 0, 0, 0, 0);
        KnobEye x = eye(1, 2);
        x.knob(0, 0, 9);
        x.knob(0, NONE, 9);
        dueFound(x, 3, 0, 0, 0, 0, 0, 0, 0, 0);
        x.card(1, true);
        due("with one", x.found(0, 3, 6), -1);
        x.away();
        due("without again", x.found(0, 3, 6), 0);
    }

    private static void foundWithoutThatWire() {
        KnobEye x = eye();
        for (int wire = 0; wire < 6; wire++) {
            due("without wire " + wire, x.found(0, 1, wire), 0);
        }
        for (int wire = 0; wire < 6; wire++) {
            x.wire(0, 1 << wire, 0);
            x.card(1 << wire, true);
            x.card(65535 - (1 << wire), false);
            x.away();
        }
        x.card(0, false);
        dueFound(x, 1, 1, 1, 1, 1, 1, 1, 0, 6);
        // an eye of less wires, asked behind one of six
        int second = x.eye();
        x.wire(second, 65535, 0);
        for (int what = 0; what < 6; what++) {
            due("without it, though another eye has it: " + what, x.found(second, 1, what), what == 0 ? 1 : 0);
        }
    }

    private static void foundIfItCannot() {
        KnobEye x = eye();
        x.card(0, true);
        x.card(0, false);
        dueFound(x, 1, 9999, 9999, 9999, 9999, 9999, 9999, 9999, 9999);
        CHECK.none("what 8", () -> x.found(0, 1, 8));
        CHECK.none("what -1", () -> x.found(0, 1, -1));
        x.away();
        dueFound(x, 1, 0, 0, 0, 0, 0, 0, -1, 0);
    }

    private static void foundAnotherWhat() {
        KnobEye x = eye(1);
        due("the last what", x.found(0, 1, 7), 0);
        for (int what : new int[] {-1, 8, Integer.MAX_VALUE, Integer.MIN_VALUE}) {
            CHECK.none("found " + what, () -> x.found(0, 1, what));
            CHECK.argument("found " + what + " by 4", () -> x.found(0, 4, what));
            CHECK.index("found " + what + " by 4 of no eye", () -> x.found(1, 4, what));
        }
    }

    private static void foundLeastOfSeveral() {
        KnobEye x = eye(1, 1, 1, 1, 1, 1);
        x.card(1, true);
        x.card(0, false);
        dueFound(x, 3, 0, 0, 0, 0, 0, 1, 0, 1);
        KnobEye y = eye(1, 1, 1, 1, 1, 1);
        y.card(0, true);
        y.card(1, false);
        dueFound(y, 3, -1, 0, 0, 0, 0, 0, -1, 1);
        // 1, 1 and 2, 0 and 0, 2 are as little: cell 0 by the first or second, cell 1 by the second or third
        KnobEye z = eye(1, 1, 2, 2);
        z.card(3, true);
        z.card(2, false);
        z.card(1, false);
        dueFound(z, 3, 0, 1, 0, 1, 0, 0, 1, 2);
    }

    // ---- promises 22 and 23

    private static void barsNone() {
        KnobEye x = eye(1);
        due("without cards", x.bars(0, 1), NONE);
        x.card(1, true);
        due("one card", x.bars(0, 1), NONE);
        x.card(0, false);
        due("two it can", x.bars(0, 1), NONE);
        cards(x, 18, 1, true);
        due("twenty it can", x.bars(0, 1), NONE);
    }

    private static void barsTheSecond() {
        KnobEye x = eye(1);
        x.card(2, true);
        x.card(4, false);
        due("the second", x.bars(0, 3), 1);
        cards(x, 18, 1, true);
        due("of twenty", x.bars(0, 3), 1);
        KnobEye y = eye();
        y.card(0, false);
        y.card(0, true);
        due("without wires", y.bars(0, 1), 1);
        y.away();
        due("without it", y.bars(0, 1), NONE);
    }

    private static void barsTheTwentieth() {
        // with the second wrong, the fourth is the first that is lit like it and not right alike
        for (int barred = 1; barred < 20; barred++) {
            KnobEye x = eye(1);
            for (int n = 0; n < 20; n++) {
                x.card(n % 2, n == barred ? n % 2 == 0 : n % 2 == 1);
            }
            due("barred by " + barred, x.bars(0, 2), barred == 1 ? 3 : barred);
        }
    }

    private static void boundNone() {
        KnobEye x = eye(1);
        due("without cards", x.bound(0, 1), NONE);
        x.card(1, true);
        due("without no cards", x.bound(0, 1), NONE);
        x.card(0, false);
        due("with both", x.bound(0, 1), 10);
        x.card(2, true);
        due("it cannot", x.bound(0, 3), NONE);
        KnobEye y = eye(1);
        y.card(1, false);
        due("without yes cards", y.bound(0, 1), NONE);
    }

    private static void boundRoundedDown() {
        KnobEye x = eye(3);
        x.card(3, true);
        x.card(0, false);
        // M 2, A 2, R 5: 5 * (4 + 4) by 4
        due("10 as it is", x.bound(0, 1), 10);
        KnobEye y = eye(7);
        y.card(7, true);
        y.card(0, false);
        // M 3, A 3, R 10: 10 * (4 + 9) by 9 is 14.4..
        due("14 and some", y.bound(0, 1), 14);
        KnobEye z = eye(31);
        z.card(31, true);
        z.card(0, false);
        // M 5, A 5, R 26: 26 * (4 + 25) by 25 is 30.16
        due("30 and some", z.bound(0, 1), 30);
    }

    private static void boundAtItsMost() {
        KnobEye x = eye(65535, 65535, 65535, 65535, 65535, 65535);
        x.card(65535, true);
        x.card(65534, false);
        // M 1, A 31, R 6 * 256 + 1: 1537 * (4 + 961)
        due("of six wires of all cells", x.bound(0, 3), 1483205);
        KnobEye y = eye(65535, 65535, 65535, 65535, 65535, 65535);
        y.card(65534, true);
        y.card(65535, false);
        // A - 31
        due("below 0", y.bound(0, 3), 1483205);
    }

    // ---- promises 24 and 25

    private static void blindNone() {
        KnobEye x = eye();
        due("without cards", x.blind(0, NONE), NONE);
        cards(x, 20, 5, true);
        due("right alike", x.blind(0, NONE), NONE);
        Check.rule(x, "1 < 2");
        Check.rule(x, "2 < 1");
        due("all right as yes", x.blind(0, 0), NONE);
        due("all right as no", x.blind(0, 1), NONE);
        CHECK.index("by rule 2", () -> x.blind(0, 2));
        CHECK.index("by rule -2", () -> x.blind(0, -2));
        CHECK.index("of eye 1", () -> x.blind(1, NONE));
    }

    private static void blindFirstAndLastPair() {
        KnobEye x = eye(1);
        x.card(0, true);
        x.card(2, false);
        due("0 and 1", x.blind(0, NONE), 1);
        KnobEye y = eye(1);
        y.card(0, true);
        cards(y, 18, 1, true);
        y.card(0, false);
        due("0 and 19", y.blind(0, NONE), 19);
        KnobEye z = eye(1);
        cards(z, 18, 0, true);
        z.card(1, true);
        z.card(3, false);
        due("18 and 19", z.blind(0, NONE), 379);
        z.away();
        due("without the last", z.blind(0, NONE), NONE);
    }

    private static void blindFirstSuch() {
        KnobEye x = eye(1);
        x.card(0, true);
        x.card(1, true);
        x.card(1, false);
        due("1 and 2", x.blind(0, NONE), 22);
        x.card(0, false);
        due("0 and 3 have the lesser number", x.blind(0, NONE), 3);
        x.card(0, false);
        due("not 0 and 4", x.blind(0, NONE), 3);
    }

    private static void blindByRuleFirstAndLast() {
        KnobEye x = eye();
        Check.rule(x, "lit > 0");
        Check.rule(x, "lit > 15");
        Check.rule(x, "lit < 1");
        due("none lit is like the others", x.blind(0, 0), 0);
        due("all lit is", x.blind(0, 1), 0);
        x.wire(0, 65534, 0);
        due("cells 1 to 15: the least but one is the last", x.blind(0, 1), 65534);
        due("and the first", x.blind(0, 2), 0);
        x.wire(0, 1, 0);
        due("all told apart: all lit", x.blind(0, 1), NONE);
        due("all told apart: none lit", x.blind(0, 2), NONE);
        Check.rule(x, "c 15");
        due("c 15 against another", x.blind(0, 3), 2);
    }

    private static void oddsOf0To16() {
        int[] ways = {1, 16, 120, 560, 1820, 4368, 8008, 11440, 12870, 11440, 8008, 4368, 1820, 560, 120, 16, 1};
        KnobEye x = eye();
        Check.rule(x, "1 < 2");
        Check.rule(x, "lit > 15");
        x.knob(0, NONE, -1);
        for (int lit = 0; lit <= 16; lit++) {
            due("of " + lit + " lit", x.odds(0, 0, lit), ways[lit]);
            due("of " + lit + " lit, right if all are", x.odds(0, 1, lit), lit == 16 ? 1 : 0);
        }
        for (int lit : new int[] {17, -2, Integer.MAX_VALUE, Integer.MIN_VALUE}) {
            CHECK.argument("of " + lit, () -> x.odds(0, 0, lit));
            CHECK.index("of " + lit + ", by rule 2", () -> x.odds(0, 2, lit));
            CHECK.index("of " + lit + ", by rule NONE", () -> x.odds(0, NONE, lit));
        }
    }

    private static void oddsOfAll() {
        KnobEye x = eye();
        Check.rule(x, "1 < 2");
        Check.rule(x, "lit > 0");
        Check.rule(x, "lit > 15");
        due("no by all, all yes", x.odds(0, 0, NONE), 0);
        due("no by all, one is no", x.odds(0, 1, NONE), 1);
        due("no by all, one is yes", x.odds(0, 2, NONE), 65535);
        x.knob(0, NONE, -1);
        due("all", x.odds(0, 0, NONE), 65536);
        due("all but one", x.odds(0, 1, NONE), 65535);
    }

    // ---- promises 26 to 30

    private static void coveredFirstAndLastCell() {
        KnobEye x = eye(0x8001);
        x.knob(0, 0, 1);
        for (int cell = 0; cell < 16; cell++) {
            due("without cards", x.covered(0, cell), 0);
        }
        x.card(0x8000, true);
        x.card(0x0001, false);
        x.card(0x8001, true);
        due("cell 0", x.covered(0, 0), 1);
        due("cell 15", x.covered(0, 15), 1);
        due("cell 14", x.covered(0, 14), 0);
        for (int cell : new int[] {16, -1, 32, Integer.MAX_VALUE, Integer.MIN_VALUE}) {
            CHECK.index("cell " + cell, () -> x.covered(0, cell));
            CHECK.index("cell 0 of no eye", () -> x.covered(1, 0));
        }
    }

    private static void coveredOfTwenty() {
        KnobEye x = eye(1);
        x.knob(0, 0, 1);
        cards(x, 20, 1, false);
        due("all twenty", x.covered(0, 0), 20);
        due("none by another", x.covered(0, 1), 0);
        x.away();
        due("nineteen", x.covered(0, 0), 19);
        x.knob(0, NONE, 1);
        due("it says no all the same", x.covered(0, 0), 0);
        x.knob(0, NONE, -1);
        due("it says yes all the same", x.covered(0, 0), 0);
        x.knob(0, 0, -1);
        due("from no to yes", x.covered(0, 0), 19);
    }

    private static void goesByNone() {
        KnobEye x = eye();
        due("without wires", x.goesBy(0), NONE);
        x.card(65535, true);
        due("with a card", x.goesBy(0), NONE);
        x.wire(0, 65535, 0);
        due("by a knob of 0", x.goesBy(0), NONE);
        x.knob(0, 0, 1);
        due("by none of sixteen", x.goesBy(0), NONE);
        x.knob(0, NONE, 15);
        due("by each: the least", x.goesBy(0), 0);
        x.away();
        due("without cards", x.goesBy(0), NONE);
        CHECK.index("of no eye", () -> x.goesBy(1));
    }

    private static void goesByFirstAndLastCell() {
        KnobEye x = eye(65535);
        x.knob(0, 0, 1);
        for (int cell = 15; cell >= 0; cell--) {
            x.card(1 << cell, true);
            due("each by one card: the least", x.goesBy(0), cell);
        }
        x.card(1 << 15, true);
        due("the last by two", x.goesBy(0), 15);
        x.card(1, false);
        due("the first too", x.goesBy(0), 0);
    }

    private static void alongNoneAndAll() {
        KnobEye x = new KnobEye();
        for (int cell = 0; cell < 16; cell++) {
            due("without cards", x.along(cell), 0);
        }
        for (int n = 0; n < 10; n++) {
            x.card(0x8001, true);
            x.card(0x7FFE, false);
        }
        due("cell 0 with all", x.along(0), 20);
        due("cell 15 with all", x.along(15), 20);
        for (int cell = 1; cell < 15; cell++) {
            due("cell " + cell + " with none", x.along(cell), 0);
        }
        for (int cell : new int[] {16, -1, Integer.MAX_VALUE, Integer.MIN_VALUE}) {
            CHECK.index("along " + cell, () -> x.along(cell));
        }
    }

    private static void cloudNone() {
        KnobEye x = new KnobEye();
        due("without cards", x.cloud(), NONE);
        x.card(65535, false);
        due("along with none: the least", x.cloud(), 0);
        x.away();
        due("without cards again", x.cloud(), NONE);
    }

    private static void cloudFirstAndLastCell() {
        for (int cell = 0; cell < 16; cell++) {
            KnobEye x = new KnobEye();
            x.card(1 << cell, true);
            due("that one", x.cloud(), cell);
            x.card(65535, true);
            due("and with all", x.cloud(), cell);
            x.card(65535 & -2 << cell, true);
            due("those above as often", x.cloud(), cell);
        }
    }

    private static void mendNoneNeeded() {
        KnobEye x = new KnobEye();
        Check.rule(x, "c 0");
        due("without cards, no card so by the rule", x.mend(0, 0), 0);
        x.card(0, true);
        due("along with none of one", x.mend(0, 0), 0);
        x.card(1, true);
        due("along with half", x.mend(0, 0), 0);
        x.card(1, true);
        due("above half", x.mend(0, 0), NONE);
        CHECK.index("by no rule, though none are needed", () -> x.mend(1, 1));
        CHECK.index("by rule NONE", () -> x.mend(1, NONE));
        CHECK.index("cell 16", () -> x.mend(16, 0));
        CHECK.index("cell -1", () -> x.mend(-1, 0));
    }

    private static void mendAtHalf() {
        KnobEye x = new KnobEye();
        Check.rule(x, "not c 0");
        cards(x, 3, 1, true);
        due("3 of 3", x.mend(0, 0), 3);
        x.card(0, true);
        due("3 of 4", x.mend(0, 0), 2);
        x.card(0, true);
        due("3 of 5", x.mend(0, 0), 1);
        x.card(0, true);
        due("3 of 6", x.mend(0, 0), 0);
        x.card(0, true);
        due("3 of 7", x.mend(0, 0), 0);
    }

    private static void mendNoCardSo() {
        KnobEye x = new KnobEye();
        Check.rule(x, "c 15");
        Check.rule(x, "c 15 and lit < 16");
        Check.rule(x, "c 15 or lit < 1");
        Check.rule(x, "c 0");
        x.card(0x8000, true);
        due("by no card", x.mend(15, 0), NONE);
        due("by the last card alone", x.mend(15, 1), 1);
        due("by the first card alone", x.mend(15, 2), 1);
        due("by many", x.mend(15, 3), 1);
        due("cell 0 by its own", x.mend(0, 3), 0);
    }

    private static void mendOfTwenty() {
        KnobEye x = new KnobEye();
        Check.rule(x, "even");
        cards(x, 20, 0, false);
        due("twenty more than can be shown", x.mend(0, 0), 20);
        due("of the last cell", x.mend(15, 0), 20);
        for (int n = 0; n < 10; n++) {
            x.away();
        }
        cards(x, 10, 0, true);
        due("half", x.mend(0, 0), 0);
        x.away();
        due("10 of 19", x.mend(0, 0), 1);
    }

    // ---- promises 31 to 33

    private static void bearNone() {
        KnobEye x = eye(1);
        due("without cards", x.bear(0), 1);
        x.card(1, true);
        due("it is wrong now", x.bear(0), NONE);
        x.knob(0, 0, 1);
        due("right now, not without", x.bear(0), 0);
        KnobEye y = eye();
        due("without wires", y.bear(0), 0);
        y.card(0, true);
        due("without wires, wrong", y.bear(0), NONE);
        CHECK.index("of no eye", () -> y.bear(1));
    }

    private static void bearFromNoneToAll() {
        for (int line = 0; line < 7; line++) {
            KnobEye x = eye(1, 1, 1, 1, 1, 1);
            for (int wire = 0; wire < 6; wire++) {
                x.knob(0, wire, 1);
            }
            x.card(1, true);
            x.knob(0, NONE, line);
            due("of six, more than " + line + " are needed", x.bear(0), line == 6 ? NONE : 5 - line);
            x.knob(0, NONE, -1);
            due("none is needed", x.bear(0), 6);
        }
        // without the last alone it is wrong, without the first as well right again
        KnobEye y = eye(1, 1, 1, 1, 1, 1);
        y.knob(0, 0, 1);
        y.knob(0, 5, -1);
        y.card(1, false);
        due("whichever wires", y.bear(0), 0);
    }

    private static void swappedFirstAndLastWire() {
        KnobEye x = eye(1, 2, 4, 8, 16, 32);
        x.knob(0, 0, 1);
        due("without cards", x.swapped(0, 0, 5), 0);
        cards(x, 10, 1, true);
        cards(x, 10, 32, true);
        due("0 and 5", x.swapped(0, 0, 5), 20);
        due("5 and 0", x.swapped(0, 5, 0), 20);
        due("0 and 4", x.swapped(0, 0, 4), 10);
        due("0 and itself", x.swapped(0, 0, 0), 0);
        due("5 and itself", x.swapped(0, 5, 5), 0);
        due("1 and 5, of knobs of 0", x.swapped(0, 1, 5), 0);
        for (int wire : new int[] {6, -1, Integer.MAX_VALUE, Integer.MIN_VALUE}) {
            CHECK.index("0 and " + wire, () -> x.swapped(0, 0, wire));
            CHECK.index(wire + " and 0", () -> x.swapped(0, wire, 0));
            CHECK.index(wire + " and itself", () -> x.swapped(0, wire, wire));
        }
        due("it is as it was", x.sees(0, 1), 1);
        KnobEye y = eye();
        CHECK.index("without wires", () -> y.swapped(0, 0, 0));
    }

    private static void soonestWithoutCards() {
        KnobEye x = eye(1);
        Check.turner(x, "turn 1");
        due("without cards", x.soonest(0, 0), 0);
        x.card(0, false);
        due("right as it is", x.soonest(0, 0), 0);
        x.away();
        x.card(1, true);
        due("one", x.soonest(0, 0), 1);
        CHECK.index("by turner 1", () -> x.soonest(0, 1));
        CHECK.index("by turner -1", () -> x.soonest(0, NONE));
        CHECK.index("of eye 1", () -> x.soonest(1, 0));
    }

    private static void soonestOfFiveAlone() {
        KnobEye x = eye(1, 2);
        Check.turner(x, "turn 1 if wrong");
        cards(x, 4, 0, false);
        x.card(1, true);
        due("the fifth first", x.soonest(0, 0), 1);
        x.card(2, true);
        due("the sixth is not asked", x.soonest(0, 0), 1);
        x.knob(0, 0, 1);
        due("wrong on the sixth alone", x.soonest(0, 0), 0);
        cards(x, 14, 65535, false);
        due("of twenty", x.soonest(0, 0), 0);
        x.knob(0, NONE, -1);
        due("wrong on the four no cards, and no LINE turns", x.soonest(0, 0), NONE);
    }

    private static void soonestTenTimes() {
        int[][] ends = {{1, 10}, {2, 20}, {3, 30}, {4, 40}, {5, 50}, {6, 50}};
        for (int[] one : ends) {
            KnobEye x = eye(1);
            Check.turner(x, "turn 1 if shown > " + (one[1] - 1));
            Check.turner(x, "turn 1 if shown > " + one[1]);
            cards(x, one[0], 1, true);
            due("the last one of " + one[0] + " cards turns it", x.soonest(0, 0), one[1]);
            due("one more would", x.soonest(0, 1), NONE);
            due("by no order", x.look(0, 8), 0);
        }
    }

    private static void soonestLeavesTheEye() {
        KnobEye x = eye(1);
        Check.turner(x, "turn 50; line 50");
        cards(x, 5, 1, true);
        x.knob(0, 0, -200);
        x.knob(0, NONE, 2000);
        x.stuck(0, 0, 1);
        due("far away", x.soonest(0, 0), 37);
        int[] looks = {-200, 0, 0, 0, 0, 0, 2000, 1, 0, 0, 1};
        for (int what = 0; what < looks.length; what++) {
            due("look " + what, x.look(0, what), looks[what]);
        }
        due("again", x.soonest(0, 0), 37);
    }

    // ---- promises 34 to 36

    private static void togetherOneToThree() {
        KnobEye x = new KnobEye();
        for (int many = 1; many <= 3; many++) {
            due("without eyes", x.together(many, 65535), false);
        }
        for (int eye = 0; eye < 3; eye++) {
            x.eye();
            x.knob(eye, NONE, -1);
            for (int many = 1; many <= 3; many++) {
                due(many + " of " + (eye + 1), x.together(many, 0), many <= eye + 1);
            }
        }
        x.knob(1, NONE, 0);
        due("three no longer", x.together(3, 65535), false);
        due("two still", x.together(2, 65535), true);
        for (int many : new int[] {0, 4, -1, Integer.MAX_VALUE, Integer.MIN_VALUE}) {
            CHECK.argument("so many: " + many, () -> x.together(many, 0));
        }
        for (int lit : new int[] {65536, -1, Integer.MAX_VALUE, Integer.MIN_VALUE}) {
            CHECK.argument("lit " + lit, () -> x.together(1, lit));
        }
    }

    private static void layerNone() {
        KnobEye x = new KnobEye();
        due("without eyes, without cards", x.layer(), NONE);
        x.card(0, false);
        due("without eyes, all no", x.layer(), NONE);
        x.eye();
        x.card(0, true);
        due("by none", x.layer(), NONE);
        x.away();
        due("one eye", x.layer(), 1);
        x.away();
        due("without cards", x.layer(), 1);
    }

    private static void layerOneToThree() {
        for (int saying = 0; saying <= 3; saying++) {
            KnobEye x = new KnobEye();
            for (int eye = 0; eye < 3; eye++) {
                x.eye();
                x.knob(eye, NONE, eye < saying ? -1 : 0);
            }
            x.card(0, true);
            due(saying + " say yes to a yes card", x.layer(), saying == 0 ? NONE : 1);
            x.away();
            x.card(0, false);
            due(saying + " say yes to a no card", x.layer(), saying == 3 ? NONE : saying + 1);
        }
        KnobEye y = new KnobEye();
        y.eye();
        y.knob(0, NONE, -1);
        y.card(0, false);
        due("two, though there is one eye", y.layer(), 2);
        y.eye();
        y.knob(1, NONE, -1);
        due("three, though there are two", y.layer(), 3);
    }

    private static void readK1And2() {
        KnobEye x = eye(1);
        due("3 knobs of 19 lines", x.read(0, 1, false), 57);
        due("5 knobs of 19 lines", x.read(0, 2, false), 95);
        for (int k : new int[] {0, 3, -1, Integer.MAX_VALUE, Integer.MIN_VALUE}) {
            CHECK.argument("read by " + k, () -> x.read(0, k, false));
            CHECK.argument("next by " + k, () -> x.read(0, k, true));
            CHECK.index("read by " + k + " of no eye", () -> x.read(1, k, false));
        }
        due("without wires", eye().read(0, 2, false), 19);
        due("of six wires", eye(1, 2, 4, 8, 16, 65535).read(0, 2, false), 296875);
        due("of six wires by 1", eye(1, 2, 4, 8, 16, 65535).read(0, 1, false), 13851);
    }

    private static void readLinesToNine() {
        // of 9 cells and of 10, a knob of - 1, 0 and 1 sees - 9, 0, 9 and - 10, 0, 10
        int[][] due = {{511, 1, 0 + 9 + 18}, {511, 0, 19 + 10 + 1}, {1023, 1, 0 + 9 + 19}, {1023, 0, 19 + 10 + 0},
            {255, 1, 1 + 9 + 17}, {255, 0, 18 + 10 + 2}};
        for (int[] one : due) {
            KnobEye x = eye(one[0]);
            x.card(one[0], one[1] == 1);
            due("all of " + one[0] + " lit, yes " + one[1], x.read(0, 1, false), one[2]);
        }
        KnobEye y = eye();
        y.card(0, true);
        due("0 above - 9 to - 1", y.read(0, 1, false), 9);
        y.away();
        y.card(0, false);
        due("0 not above 0 to 9", y.read(0, 1, false), 10);
        cards(y, 19, 65535, false);
        due("twenty alike", y.read(0, 1, false), 10);
    }

    private static void nextNone() {
        KnobEye x = eye(1);
        x.card(1, true);
        x.card(1, false);
        due("no such eyes", x.read(0, 2, false), 0);
        due("none", x.read(0, 2, true), NONE);
        x.away();
        due("all say yes to cell 0, some to cell 1", x.read(0, 2, true), 17);
        KnobEye y = eye();
        due("without wires, without cards: the first", y.read(0, 1, true), 16);
        y.card(0, false);
        due("all say no: the first", y.read(0, 1, true), 16);
        y.card(0, true);
        due("no such eyes", y.read(0, 1, true), NONE);
    }

    private static void nextOfOneEye() {
        KnobEye x = eye(1);
        x.card(1, true);
        x.card(0, false);
        due("one eye", x.read(0, 1, false), 1);
        due("it says yes to cell 0 alone, one answer to each: the first", x.read(0, 1, true), 16);
    }

    private static void nextOfTwentyCards() {
        KnobEye x = eye(1);
        for (int n = 0; n < 20; n++) {
            x.card(n % 2, n % 2 == 1);
        }
        x.wire(0, 0xC000, 1);
        due("one knob and line, another knob free", x.read(0, 1, false), 3);
        due("by that the last two tell them apart", x.read(0, 1, true), 46);
        x.wire(0, 0x8000, 0);
        due("two knobs free", x.read(0, 1, false), 9);
        due("the last one does, too", x.read(0, 1, true), 31);
        x.away();
        x.card(0, true);
        due("none by the twentieth", x.read(0, 1, true), NONE);
    }

    private static void nextFirstAndLast() {
        for (int cell = 0; cell < 16; cell++) {
            KnobEye x = eye(1 << cell);
            x.card(0, false);
            due("one cell", x.read(0, 1, true), 16 + cell);
        }
        for (int cell = 0; cell < 15; cell++) {
            KnobEye x = new KnobEye();
            x.eye();
            x.wire(0, 3 << cell, 1);
            x.card(0, false);
            due("two cells", x.read(0, 2, true), 32 + cell);
        }
        KnobEye y = new KnobEye();
        y.eye();
        // cells 3 and 4 are no neighbours on the frame, but one is behind the other by number
        y.wire(0, 0x18, 1);
        y.card(0, false);
        due("behind it by number", y.read(0, 1, true), 35);
        y.wire(0, 0x8000, 0);
        due("of less cells", y.read(0, 1, true), 31);
    }

    // ---- promise 37

    private static void holdsNoSuch() {
        KnobEye x = eye(1);
        Check.rule(x, "even");
        CHECK.index("without claims", () -> x.holds(0));
        for (int n = 0; n < 6; n++) {
            Check.claim(x, 0, 0, "cards < " + n);
            int next = n + 1;
            CHECK.index("the next", () -> x.holds(next));
            due("holds", x.holds(n), n > 0);
        }
        for (int claim : new int[] {6, -1, Integer.MAX_VALUE, Integer.MIN_VALUE}) {
            CHECK.index("holds " + claim, () -> x.holds(claim));
        }
    }

    /** 30176 is 46 times 656. */
    private static void holdsUnseenBy656() {
        String odd = "lit > 2 and lit < 4 or lit > 4 and lit < 7 or lit > 7 and lit < 9 or lit > 10 and lit < 12 or lit < 1";
        KnobEye x = eye();
        Check.rule(x, odd);
        Check.rule(x, odd + " or lit > 15");
        Check.rule(x, "2 < 1");
        Check.rule(x, "1 < 2");
        x.knob(0, NONE, -1);
        due("one less", x.odds(0, 0, NONE), 30175);
        due("46 times 656", x.odds(0, 1, NONE), 30176);
        Check.claim(x, 0, 0, "unseen > 44 and unseen < 46");
        Check.claim(x, 0, 1, "unseen > 45 and unseen < 47");
        Check.claim(x, 0, 2, "unseen < 1");
        Check.claim(x, 0, 3, "unseen > 98 and unseen < 100");
        Check.claim(x, 0, 3, "unseen > 99");
        due("45", x.holds(0), true);
        due("46", x.holds(1), true);
        due("0", x.holds(2), true);
        due("99 of all", x.holds(3), true);
        due("not 100", x.holds(4), false);
        due("four hold", x.count(6), 4);
    }

    private static void holdsAtTheEdges() {
        KnobEye x = eye(1, 1, 1, 1, 1, 1);
        Check.rule(x, "even");
        Check.turner(x, "");
        Check.claim(x, 0, 0, "right < 1 and cards < 1 and shown < 1 and knobs < 1 and not blind");
        Check.claim(x, 0, 0, "right > 19 and cards > 19 and shown > 19 and knobs > 1199");
        Check.claim(x, 0, 0, "right < 21 and cards < 21 and shown < 21 and knobs < 1201");
        due("of nothing", x.holds(0), true);
        due("not yet", x.holds(1), false);
        for (int wire = 0; wire < 6; wire++) {
            x.knob(0, wire, wire % 2 == 0 ? -200 : 200);
        }
        x.knob(0, NONE, 2000);
        for (int n = 0; n < 20; n++) {
            x.card(n, false);
            due("not with " + n, x.holds(1), false);
            x.show(0, n, 0);
        }
        due("of all", x.holds(1), true);
        due("and of no more", x.holds(2), true);
        x.knob(0, 5, 199);
        due("1199", x.holds(1), false);
    }

    private static void holdsNow() {
        KnobEye x = eye(1);
        Check.rule(x, "even");
        Check.claim(x, 0, 0, "blind");
        Check.claim(x, 0, 0, "right > 1");
        due("without cards", x.holds(0), false);
        x.card(2, true);
        x.card(4, false);
        due("blind", x.holds(0), true);
        due("right on one", x.holds(1), false);
        x.wire(0, 2, 0);
        due("with another wire", x.holds(0), false);
        x.knob(0, 1, 1);
        due("right on two", x.holds(1), true);
        x.away();
        due("right on one", x.holds(1), false);
    }

    // ---- promises 38 to 40

    private static void imageNoneKept() {
        KnobEye x = eye(1);
        x.card(1, true);
        x.knob(0, 0, 7);
        due("none", x.back(), false);
        due("none still", x.back(), false);
        due("nothing happened", x.count(1) + x.count(3) + x.look(0, 0), 9);
        x.image();
        due("now", x.back(), true);
        due("and again", x.back(), true);
        due("as it was kept", x.look(0, 0), 7);
    }

    private static void imageOfNothing() {
        KnobEye x = new KnobEye();
        x.image();
        x.eye();
        x.wire(0, 1, 0);
        x.knob(0, 0, 7);
        x.stuck(0, 127, 50);
        x.card(1, true);
        Check.rule(x, "even");
        Check.turner(x, "");
        Check.claim(x, 0, 0, "1 < 2");
        x.show(0, 0, 0);
        due("back to nothing", x.back(), true);
        for (int what = 0; what < 8; what++) {
            due("count " + what, x.count(what), 0);
        }
        CHECK.index("no eye", () -> x.look(0, 0));
        CHECK.index("no rule", () -> x.right(0, 0));
        CHECK.index("no claim", () -> x.holds(0));
        due("away", x.away(), NONE);
        due("layer", x.layer(), NONE);
        due("a new eye", x.eye(), 0);
        for (int what = 0; what <= 12; what++) {
            due("it is new: look " + what, x.look(0, what), 0);
        }
        due("its first wire", x.wire(0, 2, 0), 0);
        due("of a knob of 0", x.look(0, 0), 0);
        CHECK.index("no turner", () -> x.turned(0, 0, 1));
    }

    private static void imageTheLatest() {
        KnobEye x = eye(1);
        x.image();
        x.knob(0, 0, 5);
        x.image();
        x.knob(0, 0, 6);
        due("back", x.back(), true);
        due("to the latest", x.look(0, 0), 5);
        x.knob(0, 0, 6);
        due("back again", x.back(), true);
        due("to the same", x.look(0, 0), 5);
    }

    private static void imageOfFull() {
        KnobEye x = new KnobEye();
        for (int eye = 0; eye < 3; eye++) {
            x.eye();
            for (int wire = 0; wire < 6; wire++) {
                x.wire(eye, 1 << wire + eye, wire % 3);
                x.knob(eye, wire, 200 - wire - 6 * eye);
            }
            x.knob(eye, NONE, -2000 + eye);
            x.stuck(eye, 127 - eye, 50 - eye);
        }
        for (int n = 0; n < 20; n++) {
            x.card(65535 - n, n % 2 == 0);
        }
        for (int n = 0; n < 6; n++) {
            if (n < 4) {
                Check.rule(x, "c " + n);
                Check.turner(x, "turn " + n);
            }
            Check.claim(x, n % 3, n % 4, "cards > " + (17 + n));
        }
        x.image();
        for (int n = 0; n < 20; n++) {
            x.away();
        }
        cards(x, 20, 0, false);
        x.knob(0, 5, 0);
        x.knob(2, NONE, 0);
        x.stuck(1, 0, 0);
        due("back", x.back(), true);
        due("the cards are lit as they were", x.along(15), 10);
        int[] counts = {4, 20, 10, 3, 4, 6, 3, 18};
        for (int what = 0; what < 8; what++) {
            due("count " + what, x.count(what), counts[what]);
        }
        for (int eye = 0; eye < 3; eye++) {
            for (int wire = 0; wire < 6; wire++) {
                due("knob", x.look(eye, wire), 200 - wire - 6 * eye);
                due("wire", x.sees(eye, 1 << wire + eye), 200 - wire - 6 * eye);
            }
            due("line", x.look(eye, 6), -2000 + eye);
            due("stuck", x.look(eye, 9), 127 - eye);
            due("falls", x.look(eye, 10), 50 - eye);
        }
        CHECK.unsupported("an eye more", () -> x.eye());
        CHECK.unsupported("a card more", () -> x.card(0, true));
        CHECK.unsupported("a wire more", () -> x.wire(2, 1, 0));
    }

    private static void imageButForTheTape() {
        KnobEye x = new KnobEye();
        Check.put(x, "even x");
        x.image();
        due("the tape stays as it is kept", x.end(6), true);
        CHECK.argument("rule", () -> x.rule());
        due("fault", x.fault(), 5);
        due("back", x.back(), true);
        due("fault stays", x.fault(), 5);
        due("the tape does not come back", x.end(1), false);
        Check.put(x, "even");
        due("back", x.back(), true);
        due("the tape does not go", x.rule(), 0);
        due("no fault", x.fault(), NONE);
        due("back", x.back(), true);
        due("the rule is gone", x.count(0), 0);
        due("the image is there still", x.back(), true);
    }

    private static void countAnotherWhat() {
        KnobEye x = new KnobEye();
        for (int what : new int[] {8, -1, 100, Integer.MAX_VALUE, Integer.MIN_VALUE}) {
            due("count " + what, x.count(what), NONE);
        }
        due("count 0", x.count(0), 0);
        due("count 7", x.count(7), 0);
    }

    private static void countEmptyAndFull() {
        KnobEye x = new KnobEye();
        for (int what = 0; what < 8; what++) {
            due("empty: count " + what, x.count(what), 0);
        }
        for (int eye = 0; eye < 3; eye++) {
            x.eye();
            for (int wire = 0; wire < 6; wire++) {
                x.wire(eye, 1, 0);
            }
        }
        cards(x, 20, 1, true);
        for (int n = 0; n < 4; n++) {
            Check.rule(x, "even");
            Check.turner(x, "");
        }
        for (int n = 0; n < 6; n++) {
            Check.claim(x, 2, 3, "cards > 19");
        }
        int[] counts = {4, 20, 20, 3, 4, 6, 6, 18};
        for (int what = 0; what < 8; what++) {
            due("full: count " + what, x.count(what), counts[what]);
        }
        x.away();
        due("yes cards", x.count(2), 19);
        due("none holds", x.count(6), 0);
    }
}
