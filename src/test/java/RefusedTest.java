import java.util.NoSuchElementException;

/**
 * Calls that are refused, in an object that is empty, one that has some of each and one that is full: the exception that is
 * told first, for arguments just outside their bounds and far outside; and that nothing changed but the TAPE and fault().
 * The same of calls that only ask.
 */
public final class RefusedTest {
    private static final Check CHECK = new Check("RefusedTest");
    private static final int NONE = KnobEye.NONE;
    private static final int MIN = Integer.MIN_VALUE;
    private static final int MAX = Integer.MAX_VALUE;
    private static final Class<?> INDEX = IndexOutOfBoundsException.class;
    private static final Class<?> ARGUMENT = IllegalArgumentException.class;
    private static final Class<?> UNSUPPORTED = UnsupportedOperationException.class;
    private static final Class<?> NO_SUCH = NoSuchElementException.class;

    private static final int EMPTY = 0;
    private static final int SOME = 1;
    private static final int FULL = 2;
    /** How many there are in each state. */
    private static final int[] RULES = {0, 1, 4};
    private static final int[] TURNERS = {0, 1, 4};
    private static final int[] EYES = {0, 1, 3};
    private static final int[] WIRES = {0, 2, 6};
    private static final int[] CARDS = {0, 3, 20};
    private static final int[] CLAIMS = {0, 1, 6};
    private static final String[] DUE = new String[3];

    private static final int[] NO_LIT = {-1, 65536, 65537, -65536, MIN, MAX};
    private static final int[] NO_CELL = {-1, 16, 32, -16, MIN, MAX};
    private static final int[] NO_K = {0, 4, -1, MIN, MAX};

    private interface Call {
        Object of(KnobEye x);
    }

    public static void main(String[] args) {
        for (int state = EMPTY; state <= FULL; state++) {
            DUE[state] = Probe.of(object(state));
            texts(state);
            rulesAndCards(state);
            eyes(state);
            turning(state);
            asking(state);
            asksOnly(state);
        }
        full();
        answersThatChangeNothing();
        CHECK.end();
    }

    // ---- the objects

    /** With an eye of wires, a rule, a turner, a claim, cards and an image; on the tape are seven bytes, fault() is 2. */
    private static KnobEye object(int state) {
        KnobEye x = new KnobEye();
        for (int n = 0; n < EYES[state]; n++) {
            x.eye();
            for (int wire = 0; wire < WIRES[state]; wire++) {
                x.wire(n, 0x0F31 << wire & 0xFFFF, (n + wire) % 3);
                x.knob(n, wire, 3 * wire - 5 - n);
            }
            x.knob(n, NONE, n - 4);
            x.stuck(n, 2 << n, 2 + n);
        }
        for (int n = 0; n < CARDS[state]; n++) {
            x.card(n * 0x1357 & 0xFFFF, n % 3 == 0);
        }
        if (state != EMPTY) {
            x.image();
        }
        for (int n = 0; n < RULES[state]; n++) {
            Check.rule(x, "lit > " + 2 * n + " and not c" + n);
        }
        for (int n = 0; n < TURNERS[state]; n++) {
            Check.turner(x, "turn " + (n + 1) + " if wrong; line " + n);
        }
        for (int n = 0; n < CLAIMS[state]; n++) {
            Check.claim(x, n % EYES[state], n % RULES[state], "right > " + 3 * n);
        }
        if (state != EMPTY) {
            x.show(0, 1, 0);
        }
        Check.put(x, "1 even");
        try {
            x.rule();
        } catch (IllegalArgumentException e) {
            CHECK.due("fault as it is made", x.fault(), 2);
        }
        Check.put(x, "even or");
        return x;
    }

    /** Nothing changes at all; the TAPE and fault() neither. */
    private static void refuse(int state, Class<?> due, String name, Call call) {
        KnobEye x = object(state);
        String told = name + " in state " + state;
        CHECK.due(told, answer(x, call), due);
        CHECK.due(told + ": tape", Probe.tape(x), 7);
        CHECK.due(told + ": fault", x.fault(), 2);
        CHECK.due(told + ": all else", Probe.of(x), DUE[state]);
    }

    private static Object answer(KnobEye x, Call call) {
        try {
            return call.of(x);
        } catch (RuntimeException e) {
            return e.getClass();
        }
    }

    /** Nothing changes but the TAPE, which is used up, and fault(). */
    private static void refuseText(int state, Class<?> due, String text, int fault, Call call) {
        KnobEye x = object(state);
        String told = "text " + text + " in state " + state;
        x.end(0);
        Check.put(x, text);
        CHECK.due(told, answer(x, call), due);
        CHECK.due(told + ": tape", Probe.tape(x), 0);
        CHECK.due(told + ": fault", x.fault(), fault);
        CHECK.due(told + ": all else", Probe.of(x), DUE[state]);
    }

    /** Numbers that none of so many has; NONE not among them. */
    private static int[] outside(int many) {
        return new int[] {many, many + 1, -2, MIN, MAX};
    }

    private static int[] orNone(int[] numbers) {
        int[] more = java.util.Arrays.copyOf(numbers, numbers.length + 1);
        more[numbers.length] = NONE;
        return more;
    }

    private static int[] noEye(int state) {
        return orNone(outside(EYES[state]));
    }

    private static int[] noRule(int state) {
        return orNone(outside(RULES[state]));
    }

    private static int[] noTurner(int state) {
        return orNone(outside(TURNERS[state]));
    }

    // ---- promises 1 to 7

    private static void texts(int state) {
        refuseText(state, ARGUMENT, "even or", 7, x -> x.rule());
        refuseText(state, ARGUMENT, "", 0, x -> x.rule());
        refuseText(state, ARGUMENT, "turn 1 turn", 7, x -> x.turner());
        for (int eye : noEye(state)) {
            refuseText(state, INDEX, "blind", NONE, x -> x.claim(eye, 0));
            refuseText(state, INDEX, "blind blind", 6, x -> x.claim(eye, MAX));
        }
        if (state == EMPTY) {
            return;
        }
        for (int rule : noRule(state)) {
            refuseText(state, INDEX, "blind", NONE, x -> x.claim(0, rule));
            refuseText(state, INDEX, "blind blind", 6, x -> x.claim(0, rule));
        }
        refuseText(state, ARGUMENT, "blind or", 8, x -> x.claim(0, 0));
    }

    /** There are as many as can be: the text is read still; that it is wrong is told first. */
    private static void full() {
        refuseText(FULL, UNSUPPORTED, "even", NONE, x -> x.rule());
        refuseText(FULL, UNSUPPORTED, "turn 1", NONE, x -> x.turner());
        refuseText(FULL, UNSUPPORTED, "", NONE, x -> x.turner());
        refuseText(FULL, UNSUPPORTED, "blind", NONE, x -> x.claim(2, 3));
        refuse(FULL, UNSUPPORTED, "card", x -> x.card(0, true));
        refuse(FULL, UNSUPPORTED, "made", x -> x.made(65535, 3));
        refuse(FULL, UNSUPPORTED, "eye", x -> x.eye());
        refuse(FULL, UNSUPPORTED, "wire", x -> x.wire(2, 65535, 2));
    }

    // ---- promises 8 to 11

    private static void rulesAndCards(int state) {
        for (int rule : noRule(state)) {
            refuse(state, INDEX, "right by " + rule, x -> x.right(rule, 0));
            refuse(state, INDEX, "right by " + rule + ", of no card", x -> x.right(rule, 65536));
            refuse(state, INDEX, "made by " + rule, x -> x.made(0, rule));
            refuse(state, INDEX, "made by " + rule + ", of no card", x -> x.made(-1, rule));
        }
        for (int lit : NO_LIT) {
            refuse(state, ARGUMENT, "card " + lit, x -> x.card(lit, true));
            if (state != EMPTY) {
                refuse(state, ARGUMENT, "right of " + lit, x -> x.right(0, lit));
                refuse(state, ARGUMENT, "made of " + lit, x -> x.made(lit, 0));
            }
        }
    }

    // ---- promises 13 to 17

    private static void eyes(int state) {
        for (int eye : noEye(state)) {
            refuse(state, INDEX, "wire of " + eye, x -> x.wire(eye, 1, 0));
            refuse(state, INDEX, "wire of " + eye + ", no cells, no kind", x -> x.wire(eye, 0, 3));
            refuse(state, INDEX, "knob of " + eye, x -> x.knob(eye, 0, 1));
            refuse(state, INDEX, "line of " + eye, x -> x.knob(eye, NONE, 1));
            refuse(state, INDEX, "line of " + eye + ", no number", x -> x.knob(eye, NONE, 2001));
            refuse(state, INDEX, "stuck of " + eye, x -> stuck(x, eye, 1, 1));
            refuse(state, INDEX, "stuck of " + eye + ", none", x -> stuck(x, eye, 128, 51));
            refuse(state, INDEX, "look of " + eye, x -> x.look(eye, 0));
            refuse(state, INDEX, "look of " + eye + ", at nothing", x -> x.look(eye, 13));
            refuse(state, INDEX, "sees of " + eye, x -> x.sees(eye, 0));
            refuse(state, INDEX, "sees of " + eye + ", of no card", x -> x.sees(eye, 65536));
        }
        if (state == EMPTY) {
            return;
        }
        for (int lit : NO_LIT) {
            refuse(state, ARGUMENT, "wire of cells " + lit, x -> x.wire(0, lit, 0));
            refuse(state, ARGUMENT, "sees of card " + lit, x -> x.sees(0, lit));
        }
        refuse(state, ARGUMENT, "wire of no cells", x -> x.wire(0, 0, 0));
        for (int kind : new int[] {-1, 3, MIN, MAX}) {
            refuse(state, ARGUMENT, "wire of kind " + kind, x -> x.wire(0, 1, kind));
        }
        for (int wire : outside(WIRES[state])) {
            refuse(state, INDEX, "knob of wire " + wire, x -> x.knob(0, wire, 1));
            refuse(state, INDEX, "knob of wire " + wire + ", no number", x -> x.knob(0, wire, 201));
        }
        for (int n : new int[] {201, -201, 2001, MIN, MAX}) {
            refuse(state, ARGUMENT, "knob " + n, x -> x.knob(0, 1, n));
        }
        for (int n : new int[] {2001, -2001, MIN, MAX}) {
            refuse(state, ARGUMENT, "line " + n, x -> x.knob(0, NONE, n));
        }
        for (int knobs : new int[] {-1, 128, 256, MIN, MAX}) {
            refuse(state, ARGUMENT, "stuck " + knobs, x -> stuck(x, 0, knobs, 1));
        }
        for (int falls : new int[] {-1, 51, MIN, MAX}) {
            refuse(state, ARGUMENT, "falls " + falls, x -> stuck(x, 0, 1, falls));
        }
        for (int what : new int[] {-1, 13, MIN, MAX}) {
            refuse(state, NO_SUCH, "look at " + what, x -> x.look(0, what));
        }
    }

    private static Object stuck(KnobEye x, int eye, int knobs, int falls) {
        x.stuck(eye, knobs, falls);
        return "done";
    }

    // ---- promises 18, 19 and 33

    private static void turning(int state) {
        for (int eye : noEye(state)) {
            refuse(state, INDEX, "show to " + eye, x -> x.show(eye, 0, 0));
            refuse(state, INDEX, "turned of " + eye, x -> x.turned(eye, 0, 1));
            refuse(state, INDEX, "turned of " + eye + ", no rounds", x -> x.turned(eye, 0, 0));
            refuse(state, INDEX, "soonest of " + eye, x -> x.soonest(eye, 0));
        }
        if (state == EMPTY) {
            return;
        }
        for (int card : orNone(outside(CARDS[state]))) {
            refuse(state, INDEX, "show card " + card, x -> x.show(0, card, 0));
        }
        for (int turner : noTurner(state)) {
            refuse(state, INDEX, "show by " + turner, x -> x.show(0, 0, turner));
            refuse(state, INDEX, "turned by " + turner, x -> x.turned(0, turner, 1));
            refuse(state, INDEX, "turned by " + turner + ", no rounds", x -> x.turned(0, turner, 61));
            refuse(state, INDEX, "soonest by " + turner, x -> x.soonest(0, turner));
        }
        for (int rounds : new int[] {0, 61, -1, MIN, MAX}) {
            refuse(state, ARGUMENT, "rounds " + rounds, x -> x.turned(0, 0, rounds));
        }
    }

    // ---- promises 20 to 37

    private static void asking(int state) {
        for (int eye : noEye(state)) {
            refuse(state, INDEX, "can of " + eye, x -> x.can(eye, 1));
            refuse(state, INDEX, "can of " + eye + ", no K", x -> x.can(eye, 0));
            refuse(state, INDEX, "found of " + eye, x -> x.found(eye, 1, 0));
            refuse(state, INDEX, "found of " + eye + ", no K, no what", x -> x.found(eye, 4, 8));
            refuse(state, INDEX, "bars of " + eye, x -> x.bars(eye, 1));
            refuse(state, INDEX, "bars of " + eye + ", no K", x -> x.bars(eye, 4));
            refuse(state, INDEX, "bound of " + eye, x -> x.bound(eye, 1));
            refuse(state, INDEX, "bound of " + eye + ", no K", x -> x.bound(eye, 4));
            refuse(state, INDEX, "blind of " + eye, x -> x.blind(eye, NONE));
            refuse(state, INDEX, "blind of " + eye + ", by a rule", x -> x.blind(eye, 0));
            refuse(state, INDEX, "odds of " + eye, x -> x.odds(eye, 0, 1));
            refuse(state, INDEX, "odds of " + eye + ", lit 17", x -> x.odds(eye, 0, 17));
            refuse(state, INDEX, "covered of " + eye, x -> x.covered(eye, 0));
            refuse(state, INDEX, "goesBy of " + eye, x -> x.goesBy(eye));
            refuse(state, INDEX, "bear of " + eye, x -> x.bear(eye));
            refuse(state, INDEX, "swapped of " + eye, x -> x.swapped(eye, 0, 0));
            refuse(state, INDEX, "read of " + eye, x -> x.read(eye, 1, false));
            refuse(state, INDEX, "read of " + eye + ", no K", x -> x.read(eye, 3, true));
        }
        for (int cell : NO_CELL) {
            refuse(state, INDEX, "along " + cell, x -> x.along(cell));
            refuse(state, INDEX, "mend " + cell, x -> x.mend(cell, 0));
        }
        for (int rule : noRule(state)) {
            refuse(state, INDEX, "mend by " + rule, x -> x.mend(0, rule));
        }
        for (int many : new int[] {0, 4, -1, MIN, MAX}) {
            refuse(state, ARGUMENT, "together " + many, x -> x.together(many, 0));
        }
        for (int lit : NO_LIT) {
            refuse(state, ARGUMENT, "together on " + lit, x -> x.together(1, lit));
        }
        for (int claim : orNone(outside(CLAIMS[state]))) {
            refuse(state, INDEX, "holds " + claim, x -> x.holds(claim));
        }
        if (state != EMPTY) {
            askingAnEye(state);
        }
    }

    private static void askingAnEye(int state) {
        for (int k : NO_K) {
            refuse(state, ARGUMENT, "can by " + k, x -> x.can(0, k));
            refuse(state, ARGUMENT, "found by " + k, x -> x.found(0, k, 0));
            refuse(state, ARGUMENT, "found 8 by " + k, x -> x.found(0, k, 8));
            refuse(state, ARGUMENT, "bars by " + k, x -> x.bars(0, k));
            refuse(state, ARGUMENT, "bound by " + k, x -> x.bound(0, k));
            refuse(state, ARGUMENT, "read by " + k, x -> x.read(0, k, false));
            refuse(state, ARGUMENT, "next by " + k, x -> x.read(0, k, true));
        }
        refuse(state, ARGUMENT, "read by 3", x -> x.read(0, 3, false));
        refuse(state, ARGUMENT, "next by 3", x -> x.read(0, 3, true));
        for (int what : new int[] {-1, 8, MIN, MAX}) {
            refuse(state, NO_SUCH, "found " + what, x -> x.found(0, 1, what));
        }
        for (int rule : outside(RULES[state])) {
            refuse(state, INDEX, "blind by " + rule, x -> x.blind(0, rule));
            refuse(state, INDEX, "odds by " + rule, x -> x.odds(0, rule, 1));
            refuse(state, INDEX, "odds by " + rule + ", lit 17", x -> x.odds(0, rule, 17));
        }
        refuse(state, INDEX, "odds by NONE", x -> x.odds(0, NONE, 1));
        for (int lit : new int[] {-2, 17, MIN, MAX}) {
            refuse(state, ARGUMENT, "odds of lit " + lit, x -> x.odds(0, 0, lit));
        }
        for (int cell : NO_CELL) {
            refuse(state, INDEX, "covered " + cell, x -> x.covered(0, cell));
        }
        for (int wire : orNone(outside(WIRES[state]))) {
            refuse(state, INDEX, "swapped " + wire, x -> x.swapped(0, wire, 0));
            refuse(state, INDEX, "swapped with " + wire, x -> x.swapped(0, 0, wire));
        }
    }

    // ---- calls that are not refused, and change nothing

    private static void unchanged(int state, String name, Call call) {
        KnobEye x = object(state);
        Object got = answer(x, call);
        CHECK.due(name + " answers in state " + state, got instanceof Integer || got instanceof Boolean, true);
        CHECK.due(name + " twice in state " + state, answer(x, call), got);
        CHECK.due(name + ": tape", Probe.tape(x), 7);
        CHECK.due(name + ": fault", x.fault(), 2);
        CHECK.due(name + ": all else", Probe.of(x), DUE[state]);
    }

    private static void asksOnly(int state) {
        unchanged(state, "fault", x -> x.fault());
        unchanged(state, "along", x -> x.along(15));
        unchanged(state, "cloud", x -> x.cloud());
        unchanged(state, "together", x -> x.together(3, 65535));
        unchanged(state, "layer", x -> x.layer());
        for (int what = -1; what <= 8; what++) {
            int its = what;
            unchanged(state, "count " + what, x -> x.count(its));
        }
        if (state == EMPTY) {
            return;
        }
        int eye = EYES[state] - 1;
        int rule = RULES[state] - 1;
        int turner = TURNERS[state] - 1;
        unchanged(state, "right", x -> x.right(rule, 65535));
        unchanged(state, "look", x -> x.look(eye, 12));
        unchanged(state, "sees", x -> x.sees(eye, 65535));
        unchanged(state, "can", x -> x.can(eye, 3));
        unchanged(state, "found", x -> x.found(eye, 3, 7));
        unchanged(state, "bars", x -> x.bars(eye, 3));
        unchanged(state, "bound", x -> x.bound(eye, 3));
        unchanged(state, "blind", x -> x.blind(eye, NONE));
        unchanged(state, "blind by a rule", x -> x.blind(eye, rule));
        unchanged(state, "odds", x -> x.odds(eye, rule, NONE));
        unchanged(state, "odds of some", x -> x.odds(eye, rule, 16));
        unchanged(state, "covered", x -> x.covered(eye, 15));
        unchanged(state, "goesBy", x -> x.goesBy(eye));
        unchanged(state, "mend", x -> x.mend(15, rule));
        unchanged(state, "bear", x -> x.bear(eye));
        unchanged(state, "swapped", x -> x.swapped(eye, 0, WIRES[state] - 1));
        unchanged(state, "soonest", x -> x.soonest(eye, turner));
        unchanged(state, "read", x -> x.read(eye, 2, false));
        unchanged(state, "next", x -> x.read(eye, 2, true));
        unchanged(state, "holds", x -> x.holds(CLAIMS[state] - 1));
        unchanged(state, "knob as it is", x -> x.knob(0, 1, x.look(0, 1)));
        unchanged(state, "line as it is", x -> x.knob(0, NONE, x.look(0, 6)));
        unchanged(state, "end beyond the tape", x -> x.end(8));
        unchanged(state, "end below 0", x -> x.end(-1));
        unchanged(state, "end of all", x -> x.end(7));
    }

    /** feed beyond 400, away and back without any: they answer, and nothing happens. */
    private static void answersThatChangeNothing() {
        KnobEye x = object(FULL);
        for (int n = 27; n <= 387; n += 20) {
            CHECK.due("feed to " + n, x.feed(0, 0, 0, 0, 0), n);
        }
        CHECK.due("feed beyond 400", x.feed(1, 2, 3, 4, 5), NONE);
        CHECK.due("none came", Probe.tape(x), 387);
        CHECK.due("feed beyond 400: all else", Probe.of(x), DUE[FULL]);
        unchanged(EMPTY, "away", y -> y.away());
        unchanged(EMPTY, "back", y -> y.back());
        unchanged(EMPTY, "end 8", y -> y.end(8));
    }
}
