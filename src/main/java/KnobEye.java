import java.util.NoSuchElementException;

/** Eyes that are turned by knobs; ../shared/DOC.md tells what each call promises. */
public final class KnobEye {
    public static final int NONE = -1;

    private static final int CELLS = 16;
    private static final int ALL_CARDS = 65536;
    private static final int TAPE = 400;
    private static final int DEEPEST = 6;
    private static final int MOST_RULES = 4;
    private static final int MOST_CARDS = 20;
    private static final int MOST_EYES = 3;
    private static final int MOST_WIRES = 6;
    private static final int MOST_TURNERS = 4;
    private static final int MOST_LINES = 10;
    private static final int MOST_CLAIMS = 6;
    private static final int KNOB_END = 200;
    private static final int LINE_END = 2000;
    private static final int LINE_BIT = 6;
    private static final int MOST_FALLS = 50;
    private static final int MOST_ROUNDS = 60;
    private static final int MOST_TURN = 50;
    private static final int READ_LINE = 9;
    private static final int ORDERED = 5;
    private static final int REPEATS = 10;
    private static final int CANNOT = 9999;
    private static final int HUNDREDTH = 656;
    /** More than an EYE can see, and than there are eyes to READ. */
    private static final int BEYOND = 1 << 30;
    /** The cards that NEXT chooses from: of one CELL, then of two. */
    private static final int ASKED = CELLS + CELLS - 1;
    /** Where a word of a text may stand, and what it is. */
    private static final int IN_RULES = 0;
    private static final int IN_TURNERS = 1;
    private static final int IN_CLAIMS = 2;
    private static final int ANYWHERE = 3;
    private static final int SIGN = 0;
    private static final int TAG = 1;
    private static final int FACT = 2;
    private static final Word[] WORDS = Word.values();

    private final State now = new State();
    private final State kept = new State();
    private boolean hasImage;
    private final Reader reader = new Reader();
    private final Facts facts = new Facts();
    private final Search search = new Search();
    /** The EYE and K whose FOUND stands in search; NONE if none does. */
    private int foundEye = NONE;
    private int foundK = NONE;
    private final Eye spare = new Eye();
    private final int[] order = new int[ORDERED];
    private int fewest;
    private final Likes likes = new Likes();

    public KnobEye() {
    }

    // ---- the TAPE and the texts

    public int feed(int a, int b, int c, int d, int e) {
        if (!reader.hasRoom(20)) {
            return NONE;
        }
        reader.add(a);
        reader.add(b);
        reader.add(c);
        reader.add(d);
        reader.add(e);
        return reader.length;
    }

    public boolean end(int n) {
        return reader.cut(n);
    }

    public int rule() throws IllegalArgumentException, UnsupportedOperationException {
        Node cond = reader.takeCondition(IN_RULES);
        if (cond == null) {
            throw new IllegalArgumentException();
        }
        if (now.ruleCount >= MOST_RULES) {
            throw new UnsupportedOperationException();
        }
        now.rules[now.ruleCount] = new Rule(cond);
        now.ruleCount++;
        return now.ruleCount - 1;
    }

    public int turner() throws IllegalArgumentException, UnsupportedOperationException {
        Turner made = reader.takeTurner();
        if (made == null) {
            throw new IllegalArgumentException();
        }
        if (now.turnerCount >= MOST_TURNERS) {
            throw new UnsupportedOperationException();
        }
        now.turners[now.turnerCount] = made;
        now.turnerCount++;
        return now.turnerCount - 1;
    }

    public int claim(int eye, int rule)
            throws IndexOutOfBoundsException, IllegalArgumentException, UnsupportedOperationException {
        // the text is read ahead of all tests: a refused call uses the TAPE up and tells its fault() too
        Node cond = reader.takeCondition(IN_CLAIMS);
        needEye(eye);
        needRule(rule);
        if (cond == null) {
            throw new IllegalArgumentException();
        }
        if (now.claimCount >= MOST_CLAIMS) {
            throw new UnsupportedOperationException();
        }
        now.claims[now.claimCount] = new Claim(cond, eye, rule, reader.unseen);
        now.claimCount++;
        return now.claimCount - 1;
    }

    public int fault() {
        return reader.wrong;
    }

    // ---- RULES and SHOWN CARDS

    public boolean right(int rule, int lit) throws IndexOutOfBoundsException, IllegalArgumentException {
        Rule told = needRule(rule);
        needLit(lit);
        return told.tells(lit, facts);
    }

    public int card(int lit, boolean yes) throws IllegalArgumentException, UnsupportedOperationException {
        needLit(lit);
        return putCard(lit, yes);
    }

    public int made(int lit, int rule)
            throws IndexOutOfBoundsException, IllegalArgumentException, UnsupportedOperationException {
        Rule told = needRule(rule);
        needLit(lit);
        return putCard(lit, told.tells(lit, facts));
    }

    public int away() {
        if (now.cardCount == 0) {
            return NONE;
        }
        forgetFound();
        now.cardCount--;
        return now.cardCount;
    }

    // ---- EYES

    public int eye() throws UnsupportedOperationException {
        if (now.eyeCount >= MOST_EYES) {
            throw new UnsupportedOperationException();
        }
        now.eyeCount++;
        return now.eyeCount - 1;
    }

    public int wire(int eye, int cells, int kind)
            throws IndexOutOfBoundsException, IllegalArgumentException, UnsupportedOperationException {
        Eye its = needEye(eye);
        needLit(cells);
        if (cells == 0 || kind < Eye.SUM || kind > Eye.ODD) {
            throw new IllegalArgumentException();
        }
        if (its.wires >= MOST_WIRES) {
            throw new UnsupportedOperationException();
        }
        forgetFound();
        its.join(cells, kind);
        return its.wires - 1;
    }

    public boolean knob(int eye, int wire, int n) throws IndexOutOfBoundsException, IllegalArgumentException {
        Eye its = needEye(eye);
        if (wire != NONE) {
            needWire(its, wire);
        }
        int end = wire == NONE ? LINE_END : KNOB_END;
        if (n < -end || n > end) {
            throw new IllegalArgumentException();
        }
        return wire == NONE ? its.setLine(n) : its.setKnob(wire, n);
    }

    public void stuck(int eye, int knobs, int falls) throws IndexOutOfBoundsException, IllegalArgumentException {
        Eye its = needEye(eye);
        if (knobs < 0 || knobs >= 1 << (LINE_BIT + 1) || falls < 0 || falls > MOST_FALLS) {
            throw new IllegalArgumentException();
        }
        its.stuck = knobs;
        its.falls = falls;
    }

    public int look(int eye, int what) throws IndexOutOfBoundsException, NoSuchElementException {
        Eye its = needEye(eye);
        if (what >= 0 && what < MOST_WIRES) {
            return its.knobs[what];
        }
        switch (what) {
            case 6:
                return its.line;
            case 7:
                return its.wires;
            case 8:
                return its.shown;
            case 9:
                return its.stuck;
            case 10:
                return its.falls;
            case 11:
                return now.rightCards(its);
            case 12:
                return its.near();
            default:
                throw new NoSuchElementException();
        }
    }

    public int sees(int eye, int lit) throws IndexOutOfBoundsException, IllegalArgumentException {
        Eye its = needEye(eye);
        needLit(lit);
        return its.sum(lit);
    }

    public boolean show(int eye, int card, int turner) throws IndexOutOfBoundsException {
        Eye its = needEye(eye);
        if (card < 0 || card >= now.cardCount) {
            throw new IndexOutOfBoundsException();
        }
        Turner by = needTurner(turner);
        return its.turnBy(now.lit[card], now.yes[card], by, facts);
    }

    public int turned(int eye, int turner, int rounds) throws IndexOutOfBoundsException, IllegalArgumentException {
        Eye its = needEye(eye);
        Turner by = needTurner(turner);
        if (rounds < 1 || rounds > MOST_ROUNDS) {
            throw new IllegalArgumentException();
        }
        for (int round = 1; round <= rounds; round++) {
            boolean wrong = false;
            for (int card = 0; card < now.cardCount; card++) {
                wrong |= its.turnBy(now.lit[card], now.yes[card], by, facts);
            }
            if (!wrong) {
                return round;
            }
        }
        return NONE;
    }

    // ---- CAN

    public boolean can(int eye, int k) throws IndexOutOfBoundsException, IllegalArgumentException {
        needEye(eye);
        needK(k, 3);
        findLeast(eye, k);
        return search.any;
    }

    public int found(int eye, int k, int what)
            throws IndexOutOfBoundsException, IllegalArgumentException, NoSuchElementException {
        Eye its = needEye(eye);
        needK(k, 3);
        if (what < 0 || what > 7) {
            throw new NoSuchElementException();
        }
        findLeast(eye, k);
        if (!search.any) {
            return CANNOT;
        }
        if (what < MOST_WIRES) {
            return what < its.wires ? search.best[what] : 0;
        }
        return what == 6 ? lineFound(its) : search.least;
    }

    public int bars(int eye, int k) throws IndexOutOfBoundsException, IllegalArgumentException {
        Eye its = needEye(eye);
        needK(k, 3);
        forgetFound();
        int can = 0;
        int cannot = now.cardCount + 1;
        // with more cards it never can again, so halving finds the border
        for (int halves = 0; halves < MOST_CARDS && cannot - can > 1; halves++) {
            int many = (can + cannot) / 2;
            search.first(its, now, many, k);
            if (search.any) {
                can = many;
            } else {
                cannot = many;
            }
        }
        return can >= now.cardCount ? NONE : can;
    }

    public int bound(int eye, int k) throws IndexOutOfBoundsException, IllegalArgumentException {
        Eye its = needEye(eye);
        needK(k, 3);
        int yesCards = now.yesCards();
        if (yesCards == 0 || yesCards == now.cardCount) {
            return NONE;
        }
        findLeast(eye, k);
        if (!search.any) {
            return NONE;
        }
        return boundOf(its);
    }

    public int blind(int eye, int rule) throws IndexOutOfBoundsException {
        Eye its = needEye(eye);
        if (rule == NONE) {
            return now.blindPair(its);
        }
        return blindBy(its, needRule(rule));
    }

    public int odds(int eye, int rule, int lit) throws IndexOutOfBoundsException, IllegalArgumentException {
        Eye its = needEye(eye);
        Rule told = needRule(rule);
        if (lit < NONE || lit > CELLS) {
            throw new IllegalArgumentException();
        }
        return rightOfAll(its, told, lit);
    }

    // ---- GOES BY

    public int covered(int eye, int cell) throws IndexOutOfBoundsException {
        Eye its = needEye(eye);
        needCell(cell);
        return now.otherwiseWithout(its, cell);
    }

    public int goesBy(int eye) throws IndexOutOfBoundsException {
        Eye its = needEye(eye);
        int by = NONE;
        int most = 0;
        for (int cell = 0; cell < CELLS; cell++) {
            int many = now.otherwiseWithout(its, cell);
            if (many > most) {
                most = many;
                by = cell;
            }
        }
        return by;
    }

    public int along(int cell) throws IndexOutOfBoundsException {
        needCell(cell);
        return now.goingAlong(cell);
    }

    public int cloud() {
        if (now.cardCount == 0) {
            return NONE;
        }
        int cloud = 0;
        for (int cell = 1; cell < CELLS; cell++) {
            if (now.goingAlong(cell) > now.goingAlong(cloud)) {
                cloud = cell;
            }
        }
        return cloud;
    }

    public int mend(int cell, int rule) throws IndexOutOfBoundsException {
        needCell(cell);
        Rule told = needRule(rule);
        int more = 2 * now.goingAlong(cell) - now.cardCount;
        if (more <= 0) {
            return 0;
        }
        for (int lit = 0; lit < ALL_CARDS; lit++) {
            if (isLit(lit, cell) != told.tells(lit, facts)) {
                return more;
            }
        }
        return NONE;
    }

    public int bear(int eye) throws IndexOutOfBoundsException {
        Eye its = needEye(eye);
        int fewestLost = its.wires + 1;
        for (int lost = 0; lost < 1 << its.wires; lost++) {
            int many = Integer.bitCount(lost);
            if (many < fewestLost && !now.rightWithout(its, lost)) {
                fewestLost = many;
            }
        }
        return fewestLost - 1;
    }

    public int swapped(int eye, int a, int b) throws IndexOutOfBoundsException {
        Eye its = needEye(eye);
        needWire(its, a);
        needWire(its, b);
        spare.takeFrom(its);
        spare.swap(a, b);
        int many = 0;
        for (int card = 0; card < now.cardCount; card++) {
            if (its.says(now.lit[card]) != spare.says(now.lit[card])) {
                many++;
            }
        }
        return many;
    }

    public int soonest(int eye, int turner) throws IndexOutOfBoundsException {
        Eye its = needEye(eye);
        Turner by = needTurner(turner);
        fewest = ORDERED * REPEATS + 1;
        int cards = Math.min(now.cardCount, ORDERED);
        int rows = 1;
        for (int place = 0; place < cards; place++) {
            rows *= cards;
        }
        for (int row = 0; row < rows; row++) {
            if (setOrder(row, cards)) {
                tryOrder(its, by, cards);
            }
        }
        return fewest > ORDERED * REPEATS ? NONE : fewest;
    }

    public boolean together(int many, int lit) throws IllegalArgumentException {
        if (many < 1 || many > MOST_EYES) {
            throw new IllegalArgumentException();
        }
        needLit(lit);
        return now.eyesSayingYes(lit) >= many;
    }

    public int layer() {
        if (now.eyeCount == 0) {
            return NONE;
        }
        for (int many = 1; many <= MOST_EYES; many++) {
            boolean all = true;
            for (int card = 0; card < now.cardCount && all; card++) {
                all = now.eyesSayingYes(now.lit[card]) >= many == now.yes[card];
            }
            if (all) {
                return many;
            }
        }
        return NONE;
    }

    public int read(int eye, int k, boolean next) throws IndexOutOfBoundsException, IllegalArgumentException {
        Eye its = needEye(eye);
        needK(k, 2);
        forgetFound();
        search.each(its, now, k, next ? ASKED : 0);
        if (!next) {
            return search.eyes;
        }
        return search.eyes == 0 ? NONE : nextCard();
    }

    public boolean holds(int claim) throws IndexOutOfBoundsException {
        if (claim < 0 || claim >= now.claimCount || now.claims[claim] == null) {
            throw new IndexOutOfBoundsException();
        }
        return isTrueNow(now.claims[claim]);
    }

    public void image() {
        kept.takeFrom(now);
        hasImage = true;
    }

    public boolean back() {
        if (!hasImage) {
            return false;
        }
        forgetFound();
        now.takeFrom(kept);
        return true;
    }

    public int count(int what) {
        int holding = 0;
        switch (what) {
            case 0:
                return now.ruleCount;
            case 1:
                return now.cardCount;
            case 2:
                return now.yesCards();
            case 3:
                return now.eyeCount;
            case 4:
                return now.turnerCount;
            case 5:
                return now.claimCount;
            case 6:
                for (int n = 0; n < now.claimCount; n++) {
                    holding += now.claims[n] != null && isTrueNow(now.claims[n]) ? 1 : 0;
                }
                return holding;
            case 7:
                return now.wiresInAll();
            default:
                return NONE;
        }
    }

    // ---- what a call needs

    private Eye needEye(int n) {
        if (n < 0 || n >= now.eyeCount) {
            throw new IndexOutOfBoundsException();
        }
        return now.eyes[n];
    }

    private Rule needRule(int n) {
        if (n < 0 || n >= now.ruleCount || now.rules[n] == null) {
            throw new IndexOutOfBoundsException();
        }
        return now.rules[n];
    }

    private Turner needTurner(int n) {
        if (n < 0 || n >= now.turnerCount || now.turners[n] == null) {
            throw new IndexOutOfBoundsException();
        }
        return now.turners[n];
    }

    private static void needWire(Eye eye, int wire) {
        if (wire < 0 || wire >= eye.wires) {
            throw new IndexOutOfBoundsException();
        }
    }

    private static void needCell(int cell) {
        if (cell < 0 || cell >= CELLS) {
            throw new IndexOutOfBoundsException();
        }
    }

    private static void needLit(int lit) {
        if (lit < 0 || lit >= ALL_CARDS) {
            throw new IllegalArgumentException();
        }
    }

    private static void needK(int k, int most) {
        if (k < 1 || k > most) {
            throw new IllegalArgumentException();
        }
    }

    private static boolean isLit(int lit, int cell) {
        return (lit >> cell & 1) != 0;
    }

    // ---- helpers of the calls

    private int putCard(int lit, boolean yes) {
        if (now.cardCount >= MOST_CARDS) {
            throw new UnsupportedOperationException();
        }
        forgetFound();
        now.lit[now.cardCount] = lit;
        now.yes[now.cardCount] = yes;
        now.cardCount++;
        return now.cardCount - 1;
    }

    private void forgetFound() {
        foundEye = NONE;
        foundK = NONE;
    }

    /** Has FOUND of an EYE by K in search; one that stands there still is not sought again. */
    private void findLeast(int eye, int k) {
        if (foundEye != eye || foundK != k) {
            search.leastOf(needEye(eye), now, k);
            foundEye = eye;
            foundK = k;
        }
    }

    private int lineFound(Eye eye) {
        int highestNo = -BEYOND;
        int lowest = BEYOND;
        for (int card = 0; card < now.cardCount; card++) {
            int sum = eye.sumWith(search.best, now.lit[card]);
            lowest = Math.min(lowest, sum);
            if (!now.yes[card]) {
                highestNo = Math.max(highestNo, sum);
            }
        }
        if (now.cardCount == 0) {
            return 0;
        }
        return highestNo == -BEYOND ? lowest - 1 : highestNo;
    }

    /** BOUND by the KNOBS in search, where there are yes cards and no cards. */
    private int boundOf(Eye eye) {
        long lowestYes = BEYOND;
        long highestNo = -BEYOND;
        long most = 0;
        for (int card = 0; card < now.cardCount; card++) {
            int sum = eye.sumWith(search.best, now.lit[card]);
            if (now.yes[card]) {
                lowestYes = Math.min(lowestYes, sum);
            } else {
                highestNo = Math.max(highestNo, sum);
            }
            most = Math.max(most, eye.valuesSquared(now.lit[card]) + 1);
        }
        long knobsSquared = 0;
        for (int wire = 0; wire < eye.wires; wire++) {
            knobsSquared += search.best[wire] * search.best[wire];
        }
        long apart = lowestYes - highestNo;
        long both = lowestYes + highestNo;
        if (apart <= 0) {
            return NONE;
        }
        return (int) (most * (4 * knobsSquared + both * both) / (apart * apart));
    }

    private int blindBy(Eye eye, Rule rule) {
        rule.makeReady(facts);
        likes.begin();
        int least = ALL_CARDS;
        for (int lit = 0; lit < ALL_CARDS && least > 0; lit++) {
            int first = likes.firstLike(eye.valuesOf(lit), lit);
            if (first < least && rule.tells(first, facts) != rule.tells(lit, facts)) {
                least = first;
            }
        }
        return least == ALL_CARDS ? NONE : least;
    }

    private int rightOfAll(Eye eye, Rule rule, int manyLit) {
        if (manyLit == NONE) {
            rule.makeReady(facts);
        }
        int many = 0;
        for (int lit = 0; lit < ALL_CARDS; lit++) {
            boolean asked = manyLit == NONE || Integer.bitCount(lit) == manyLit;
            if (asked && eye.says(lit) == rule.tells(lit, facts)) {
                many++;
            }
        }
        return many;
    }

    /** Sets order to the digits that a row's number has to the base of so many cards; false if a card is there twice. */
    private boolean setOrder(int row, int cards) {
        int rest = row;
        int used = 0;
        for (int place = 0; place < cards && place < ORDERED; place++) {
            order[place] = rest % cards;
            used |= 1 << order[place];
            rest /= cards;
        }
        return used == (1 << cards) - 1;
    }

    private void tryOrder(Eye eye, Turner turner, int cards) {
        spare.takeFrom(eye);
        int shown = 0;
        for (int time = 0; time < REPEATS; time++) {
            for (int place = 0; place < cards; place++) {
                if (shown >= fewest || now.rightOnFirst(spare, cards)) {
                    fewest = Math.min(fewest, shown);
                    return;
                }
                int card = order[place];
                if (card >= 0 && card < now.cardCount) {
                    spare.turnBy(now.lit[card], now.yes[card], turner, facts);
                }
                shown++;
            }
        }
        if (now.rightOnFirst(spare, cards)) {
            fewest = Math.min(fewest, shown);
        }
    }

    /** NEXT by what search counted of the ASKED cards. */
    private int nextCard() {
        int best = 0;
        int fewestEyes = BEYOND;
        for (int card = 0; card < ASKED; card++) {
            int frequent = Math.max(search.sayYes[card], search.eyes - search.sayYes[card]);
            if (frequent < fewestEyes) {
                fewestEyes = frequent;
                best = card;
            }
        }
        return best < CELLS ? 16 + best : 32 + best - CELLS;
    }

    private boolean isTrueNow(Claim claim) {
        Eye eye = needEye(claim.eye);
        // all 65536 cards are gone through only where the text has the word
        int unseen = claim.unseen ? rightOfAll(eye, needRule(claim.rule), NONE) / HUNDREDTH : 0;
        facts.unseen = unseen;
        facts.rightCards = now.rightCards(eye);
        facts.cards = now.cardCount;
        facts.shown = eye.shown;
        facts.knobs = eye.knobsTogether();
        facts.blind = now.blindPair(eye) != NONE;
        return claim.cond.isTrue(facts, 0);
    }

    /** What a text is made of: words, signs, NUMBERS, its end, and all that has no sense. */
    private enum Word {
        PIECE("piece", IN_RULES, TAG),
        EVEN("even", IN_RULES, TAG),
        CELL("c", IN_RULES, TAG),
        LIT("lit", IN_RULES, FACT),
        LEFT("left", IN_RULES, FACT),
        RIGHT("right", IN_RULES, FACT),
        UP("up", IN_RULES, FACT),
        ROWS("rows", IN_RULES, FACT),
        WRONG("wrong", IN_TURNERS, TAG),
        YES("yes", IN_TURNERS, TAG),
        FAR("far", IN_TURNERS, FACT),
        VALUE("value", IN_TURNERS, FACT),
        KNOB("knob", IN_TURNERS, FACT),
        SHOWN("shown", IN_TURNERS, FACT),
        BLIND("blind", IN_CLAIMS, TAG),
        RIGHT_CARDS("right", IN_CLAIMS, FACT),
        CARDS("cards", IN_CLAIMS, FACT),
        UNSEEN("unseen", IN_CLAIMS, FACT),
        SHOWN_CARDS("shown", IN_CLAIMS, FACT),
        KNOBS("knobs", IN_CLAIMS, FACT),
        AND("and", ANYWHERE, SIGN),
        OR("or", ANYWHERE, SIGN),
        NOT("not", ANYWHERE, SIGN),
        OPEN("(", ANYWHERE, SIGN),
        CLOSE(")", ANYWHERE, SIGN),
        LESS("<", ANYWHERE, SIGN),
        MORE(">", ANYWHERE, SIGN),
        PLUS("+", ANYWHERE, SIGN),
        TIMES("*", ANYWHERE, SIGN),
        TURN("turn", IN_TURNERS, SIGN),
        LINE("line", IN_TURNERS, SIGN),
        IF("if", IN_TURNERS, SIGN),
        BREAK(";", IN_TURNERS, SIGN),
        NUMBER("", ANYWHERE, SIGN),
        END("", ANYWHERE, SIGN),
        SENSELESS("", ANYWHERE, SIGN);

        private final String text;
        private final int place;
        private final int kind;

        Word(String text, int place, int kind) {
            this.text = text;
            this.place = place;
            this.kind = kind;
        }
    }

    /** What the words stand for, as of one card, of one WIRE that may be turned, or of one CLAIM. */
    private static final class Facts {
        private int lit;
        private boolean wrong;
        private boolean yes;
        private int far;
        private int value;
        private int knob;
        private int shown;
        private int rightCards;
        private int cards;
        private int unseen;
        private int knobs;
        private boolean blind;

        private long sumOf(Node parts) {
            long sum = 0;
            for (Node part = parts; part != null; part = part.next) {
                sum += part.word == null ? part.number : part.number * numberOf(part.word);
            }
            return sum;
        }

        private long numberOf(Word word) {
            switch (word) {
                case LIT:
                    return Integer.bitCount(lit);
                case LEFT:
                    return Integer.bitCount(lit & 0x3333);
                case RIGHT:
                    return Integer.bitCount(lit & 0xCCCC);
                case UP:
                    return Integer.bitCount(lit & 0x00FF);
                case ROWS:
                    return rowsOf(lit);
                case FAR:
                    return far;
                case VALUE:
                    return value;
                case KNOB:
                    return knob;
                case SHOWN:
                case SHOWN_CARDS:
                    return shown;
                case RIGHT_CARDS:
                    return rightCards;
                case CARDS:
                    return cards;
                case UNSEEN:
                    return unseen;
                case KNOBS:
                    return knobs;
                default:
                    return 0;
            }
        }

        private boolean isSo(Word word, int cell) {
            switch (word) {
                case PIECE:
                    return isOnePiece(lit);
                case EVEN:
                    return (Integer.bitCount(lit) & 1) == 0;
                case CELL:
                    return isLit(lit, cell);
                case WRONG:
                    return wrong;
                case YES:
                    return yes;
                case BLIND:
                    return blind;
                default:
                    return false;
            }
        }

        private static int rowsOf(int lit) {
            int rows = 0;
            for (int y = 0; y < 4; y++) {
                if ((lit >> 4 * y & 15) != 0) {
                    rows++;
                }
            }
            return rows;
        }

        private static boolean isOnePiece(int lit) {
            int reached = lit & -lit;
            // each time but the last reaches one CELL more at least
            for (int times = 0; times < CELLS; times++) {
                int beside = (reached & 0x7777) << 1 | (reached & 0xEEEE) >> 1 | reached << 4 | reached >> 4;
                int more = (reached | beside) & lit;
                if (more == reached) {
                    break;
                }
                reached = more;
            }
            return lit != 0 && reached == lit;
        }
    }

    /** A piece of a condition that was read; what belongs together hangs in a chain by next. */
    private static final class Node {
        private static final int ANY = 0;
        private static final int ALL = 1;
        private static final int NOT = 2;
        private static final int IS = 3;
        private static final int LESS = 4;
        private static final int MORE = 5;
        private static final int PART = 6;
        /** An ANY, an ALL and a NOT for each ( or not, and once more outside of these. */
        private static final int DEEPEST_NODE = 3 * (DEEPEST + 1);

        private final int kind;
        private Node next;
        /** The chain of what it joins; of LESS and MORE: of the PARTS ahead of the sign. */
        private Node first;
        /** Of LESS and MORE: the chain of the PARTS behind the sign. */
        private Node second;
        private Word word;
        /** Of a PART its NUMBER, of an IS its CELL. */
        private int number;

        Node(int kind) {
            this.kind = kind;
        }

        private boolean isTrue(Facts facts, int depth) {
            if (depth > DEEPEST_NODE) {
                return false;
            }
            switch (kind) {
                case IS:
                    return word != null && facts.isSo(word, number);
                case LESS:
                    return facts.sumOf(first) < facts.sumOf(second);
                case MORE:
                    return facts.sumOf(first) > facts.sumOf(second);
                default:
                    break;
            }
            // one true decides an ANY, one false an ALL and a NOT
            for (Node one = first; one != null; one = one.next) {
                if (one.isTrue(facts, depth + 1) == (kind == ANY)) {
                    return kind != ALL;
                }
            }
            return kind == ALL;
        }
    }

    /** The TAPE, and how a text on it is read; the first byte that is wrong stays in wrong. */
    private static final class Reader {
        private final char[] tape = new char[TAPE];
        private int length;
        private int wrong = NONE;
        /** Whether the latest text has the word unseen. */
        private boolean unseen;
        /** What the text is made of, its END too: where each begins, and the NUMBERS (NONE if too long). */
        private final Word[] things = new Word[TAPE + 1];
        private final int[] begins = new int[TAPE + 1];
        private final int[] numbers = new int[TAPE + 1];
        private int many;
        /** The one that is looked at. */
        private int at;

        private boolean hasRoom(int bytes) {
            return length + bytes <= TAPE;
        }

        private void add(int four) {
            for (int shift = 24; shift >= 0 && length < TAPE; shift -= 8) {
                tape[length] = (char) (four >>> shift & 255);
                length++;
            }
        }

        private boolean cut(int n) {
            if (n < 0 || n > length) {
                return false;
            }
            length = n;
            return true;
        }

        /** The condition that the TAPE is, which is used up; null if it is wrong. */
        private Node takeCondition(int place) {
            split(place);
            Node cond = readGroup(Node.ANY, 0);
            return cond == null || is(Word.END) ? cond : fail();
        }

        /** The TURNER that the TAPE is, which is used up; null if it is wrong. */
        private Turner takeTurner() {
            split(IN_TURNERS);
            Turner taken = new Turner();
            boolean more = !is(Word.END);
            for (int lines = 0; lines <= MOST_LINES && more; lines++) {
                readLine(taken);
                more = wrong == NONE && is(Word.BREAK);
                if (more) {
                    at++;
                }
            }
            if (wrong == NONE && !is(Word.END)) {
                fail();
            }
            return wrong == NONE ? taken : null;
        }

        /** Splits the TAPE into things and uses it up. */
        private void split(int place) {
            wrong = NONE;
            unseen = false;
            many = 0;
            at = 0;
            for (int begin = 0; begin < length && many < TAPE; begin++) {
                if (tape[begin] != ' ' && !goesOn(begin)) {
                    int end = endOf(begin);
                    things[many] = wordOf(begin, end, place);
                    begins[many] = begin;
                    numbers[many] = numberOf(begin, end);
                    many++;
                }
            }
            things[many] = Word.END;
            begins[many] = length;
            many++;
            length = 0;
        }

        /** Whether the word or NUMBER of the byte ahead goes on with this byte. */
        private boolean goesOn(int i) {
            if (i <= 0 || i >= length) {
                return false;
            }
            return isLetter(tape[i - 1]) && isLetter(tape[i]) || isDigit(tape[i - 1]) && isDigit(tape[i]);
        }

        /** The byte behind the word, NUMBER or sign that begins there. */
        private int endOf(int begin) {
            for (int end = begin + 1; end < length; end++) {
                if (!goesOn(end)) {
                    return end;
                }
            }
            return length;
        }

        private Word wordOf(int begin, int end, int place) {
            if (isDigit(tape[begin])) {
                return Word.NUMBER;
            }
            for (int i = 0; i < WORDS.length; i++) {
                Word word = WORDS[i];
                if ((word.place == place || word.place == ANYWHERE) && isText(word.text, begin, end)) {
                    return word;
                }
            }
            return Word.SENSELESS;
        }

        private int numberOf(int begin, int end) {
            if (end - begin > 4 || !isDigit(tape[begin])) {
                return NONE;
            }
            int number = 0;
            for (int i = begin; i < end; i++) {
                number = 10 * number + tape[i] - '0';
            }
            return number;
        }

        private boolean isText(String text, int begin, int end) {
            if (text.length() != end - begin) {
                return false;
            }
            for (int i = 0; i < text.length() && begin + i < length; i++) {
                if (tape[begin + i] != text.charAt(i)) {
                    return false;
                }
            }
            return true;
        }

        private static boolean isLetter(char sign) {
            return sign >= 'a' && sign <= 'z';
        }

        private static boolean isDigit(char sign) {
            return sign >= '0' && sign <= '9';
        }

        private boolean is(Word word) {
            return at < many && things[at] == word;
        }

        /** The word that is looked at, if it is of this kind; else null. */
        private Word wordHere(int kind) {
            return at < many && things[at] != null && things[at].kind == kind ? things[at] : null;
        }

        /** What is looked at cannot stand there. */
        private Node fail() {
            if (wrong == NONE && at < many) {
                wrong = begins[at];
            }
            return null;
        }

        private void readLine(Turner turner) {
            boolean turn = is(Word.TURN);
            if (turner.lines >= MOST_LINES || !turn && !is(Word.LINE)) {
                fail();
                return;
            }
            at++;
            int by = takeNumber(MOST_TURN);
            Node cond = null;
            if (wrong == NONE && is(Word.IF)) {
                at++;
                cond = readGroup(Node.ANY, 0);
            }
            if (wrong == NONE) {
                turner.add(turn, by, cond);
            }
        }

        /** An ANY of ALLs, or an ALL of ATOMs; one alone stands for itself. */
        private Node readGroup(int groupKind, int depth) {
            if (depth > DEEPEST) {
                return fail();
            }
            boolean anyOf = groupKind == Node.ANY;
            Node group = new Node(groupKind);
            Node last = null;
            for (int parts = 0; parts < TAPE; parts++) {
                Node one = anyOf ? readGroup(Node.ALL, depth) : readAtom(depth);
                if (one == null) {
                    return null;
                }
                if (last == null) {
                    group.first = one;
                } else {
                    last.next = one;
                }
                last = one;
                if (!is(anyOf ? Word.OR : Word.AND)) {
                    break;
                }
                at++;
            }
            return group.first == last ? last : group;
        }

        private Node readAtom(int depth) {
            boolean not = is(Word.NOT);
            if (!not && !is(Word.OPEN)) {
                return wordHere(TAG) == null ? readComparison() : readTag();
            }
            if (depth >= DEEPEST) {
                return fail();
            }
            at++;
            if (!not) {
                Node inside = readGroup(Node.ANY, depth + 1);
                if (inside == null || !is(Word.CLOSE)) {
                    return fail();
                }
                at++;
                return inside;
            }
            Node node = new Node(Node.NOT);
            node.first = readAtom(depth + 1);
            return node.first == null ? null : node;
        }

        private Node readTag() {
            Node node = new Node(Node.IS);
            node.word = wordHere(TAG);
            at++;
            if (node.word == Word.CELL) {
                node.number = takeNumber(CELLS - 1);
            }
            return wrong == NONE ? node : null;
        }

        private Node readComparison() {
            Node before = readSum();
            if (before == null) {
                return null;
            }
            boolean less = is(Word.LESS);
            if (!less && !is(Word.MORE)) {
                return fail();
            }
            at++;
            Node node = new Node(less ? Node.LESS : Node.MORE);
            node.first = before;
            node.second = readSum();
            return node.second == null ? null : node;
        }

        private Node readSum() {
            Node first = null;
            Node last = null;
            for (int parts = 0; parts < TAPE; parts++) {
                Node part = new Node(Node.PART);
                part.number = 1;
                boolean fact = !is(Word.NUMBER);
                if (!fact) {
                    part.number = at < many ? numbers[at] : NONE;
                    if (part.number < 0) {
                        return fail();
                    }
                    at++;
                    fact = is(Word.TIMES);
                    at += fact ? 1 : 0;
                }
                if (fact) {
                    part.word = wordHere(FACT);
                    if (part.word == null) {
                        return fail();
                    }
                    unseen |= part.word == Word.UNSEEN;
                    at++;
                }
                if (last == null) {
                    first = part;
                } else {
                    last.next = part;
                }
                last = part;
                if (!is(Word.PLUS)) {
                    break;
                }
                at++;
            }
            return first;
        }

        /** A NUMBER of 0 to most; NONE, and a fault, if there is none. */
        private int takeNumber(int most) {
            int taken = at < many && is(Word.NUMBER) ? numbers[at] : NONE;
            if (taken < 0 || taken > most) {
                fail();
                return NONE;
            }
            at++;
            return taken;
        }
    }

    private static final class Rule {
        private final Node cond;
        /** A bit of each card, made when all cards are asked for the first time. */
        private long[] table;

        Rule(Node cond) {
            this.cond = cond;
        }

        private void makeReady(Facts facts) {
            if (table != null) {
                return;
            }
            long[] bits = new long[ALL_CARDS / 64];
            for (int lit = 0; lit < ALL_CARDS; lit++) {
                facts.lit = lit;
                if (cond.isTrue(facts, 0)) {
                    bits[lit >> 6] |= 1L << (lit & 63);
                }
            }
            table = bits;
        }

        private boolean tells(int lit, Facts facts) {
            if (table != null && lit >= 0 && lit < ALL_CARDS) {
                return (table[lit >> 6] >> (lit & 63) & 1) != 0;
            }
            facts.lit = lit;
            return cond.isTrue(facts, 0);
        }
    }

    private static final class Turner {
        private int lines;
        private final boolean[] turns = new boolean[MOST_LINES];
        private final int[] numbers = new int[MOST_LINES];
        /** Null where the LINE has no if. */
        private final Node[] conds = new Node[MOST_LINES];

        private void add(boolean turn, int number, Node cond) {
            if (lines < MOST_LINES) {
                turns[lines] = turn;
                numbers[lines] = number;
                conds[lines] = cond;
                lines++;
            }
        }

        /** The NUMBER of the first turn LINE, or line LINE, that holds; 0 if none does. */
        private int numberBy(boolean turn, Facts facts) {
            for (int n = 0; n < lines; n++) {
                Node cond = conds[n];
                if (turns[n] == turn && (cond == null || cond.isTrue(facts, 0))) {
                    return numbers[n];
                }
            }
            return 0;
        }
    }

    private static final class Claim {
        private final Node cond;
        private final int eye;
        private final int rule;
        private final boolean unseen;

        Claim(Node cond, int eye, int rule, boolean unseen) {
            this.cond = cond;
            this.eye = eye;
            this.rule = rule;
            this.unseen = unseen;
        }
    }

    private static final class Eye {
        private static final int SUM = 0;
        private static final int ALL = 1;
        private static final int ODD = 2;

        private int wires;
        private final int[] cells = new int[MOST_WIRES];
        private final int[] kinds = new int[MOST_WIRES];
        private final int[] knobs = new int[MOST_WIRES];
        private int line;
        private int shown;
        private int stuck;
        private int falls;

        private void takeFrom(Eye other) {
            wires = other.wires;
            for (int wire = 0; wire < MOST_WIRES; wire++) {
                cells[wire] = other.cells[wire];
                kinds[wire] = other.kinds[wire];
                knobs[wire] = other.knobs[wire];
            }
            line = other.line;
            shown = other.shown;
            stuck = other.stuck;
            falls = other.falls;
        }

        private void join(int joined, int kind) {
            if (wires < MOST_WIRES) {
                cells[wires] = joined;
                kinds[wires] = kind;
                wires++;
            }
        }

        private boolean setKnob(int wire, int n) {
            if (wire < 0 || wire >= wires || knobs[wire] == n) {
                return false;
            }
            knobs[wire] = n;
            return true;
        }

        private boolean setLine(int n) {
            boolean otherwise = line != n;
            line = n;
            return otherwise;
        }

        private void swap(int a, int b) {
            if (a < 0 || a >= wires || b < 0 || b >= wires) {
                return;
            }
            int itsCells = cells[a];
            int itsKind = kinds[a];
            cells[a] = cells[b];
            kinds[a] = kinds[b];
            cells[b] = itsCells;
            kinds[b] = itsKind;
        }

        private int valueOf(int wire, int lit) {
            if (wire < 0 || wire >= wires) {
                return 0;
            }
            int both = lit & cells[wire];
            switch (kinds[wire]) {
                case SUM:
                    return Integer.bitCount(both);
                case ALL:
                    return both == cells[wire] ? 1 : 0;
                default:
                    return Integer.bitCount(both) & 1;
            }
        }

        /** The VALUES of all WIRES as one number, five bits each. */
        private int valuesOf(int lit) {
            int values = 0;
            for (int wire = 0; wire < wires; wire++) {
                values = values << 5 | valueOf(wire, lit);
            }
            return values;
        }

        private int valuesSquared(int lit) {
            int squared = 0;
            for (int wire = 0; wire < wires; wire++) {
                int value = valueOf(wire, lit);
                squared += value * value;
            }
            return squared;
        }

        private int sum(int lit) {
            return sumWith(knobs, lit);
        }

        private int sumWith(int[] otherKnobs, int lit) {
            int sum = 0;
            for (int wire = 0; wire < wires && wire < otherKnobs.length; wire++) {
                sum += otherKnobs[wire] * valueOf(wire, lit);
            }
            return sum;
        }

        private boolean says(int lit) {
            return sumWith(knobs, lit) > line;
        }

        private boolean saysWithout(int lost, int lit) {
            int sum = 0;
            for (int wire = 0; wire < wires; wire++) {
                if ((lost >> wire & 1) == 0) {
                    sum += knobs[wire] * valueOf(wire, lit);
                }
            }
            return sum > line;
        }

        private int knobsTogether() {
            int together = 0;
            for (int wire = 0; wire < wires; wire++) {
                together += Math.abs(knobs[wire]);
            }
            return together;
        }

        private int near() {
            int side = 0;
            for (int wire = 0; wire < wires; wire++) {
                side = Math.max(side, Math.max(reach(cells[wire], 1, 4), reach(cells[wire], 4, 1)));
            }
            return side;
        }

        /** How many columns (along 1, across 4) or rows (along 4, across 1) lie from the first joined one to the last. */
        private static int reach(int joined, int along, int across) {
            int first = NONE;
            int last = NONE;
            for (int n = 0; n < 4; n++) {
                boolean some = false;
                for (int m = 0; m < 4; m++) {
                    some |= isLit(joined, n * along + m * across);
                }
                if (some) {
                    first = first == NONE ? n : first;
                    last = n;
                }
            }
            return first == NONE ? 0 : last - first + 1;
        }

        /** SHOW: whether it was wrong. */
        private boolean turnBy(int lit, boolean yes, Turner turner, Facts facts) {
            shown++;
            int sum = sum(lit);
            boolean wrong = sum > line != yes;
            facts.wrong = wrong;
            facts.yes = yes;
            facts.far = Math.abs(sum - line);
            facts.shown = shown;
            int up = yes ? 1 : -1;
            // what a WIRE's turning hangs on is its own alone, so the KNOBS may turn one by one
            for (int wire = 0; wire < wires; wire++) {
                if (!isStuck(wire)) {
                    int value = valueOf(wire, lit);
                    facts.value = value;
                    facts.knob = Math.abs(knobs[wire]);
                    knobs[wire] = within(knobs[wire] + up * value * turner.numberBy(true, facts), KNOB_END);
                }
            }
            if (!isStuck(LINE_BIT)) {
                facts.value = 0;
                facts.knob = Math.abs(line);
                line = within(line - up * turner.numberBy(false, facts), LINE_END);
            }
            if (falls > 0 && shown % falls == 0) {
                fall();
            }
            return wrong;
        }

        private void fall() {
            for (int wire = 0; wire < wires; wire++) {
                if (!isStuck(wire)) {
                    knobs[wire] -= knobs[wire] > 0 ? 1 : knobs[wire] < 0 ? -1 : 0;
                }
            }
        }

        private boolean isStuck(int bit) {
            return (stuck >> bit & 1) != 0;
        }

        private static int within(int n, int end) {
            return Math.max(-end, Math.min(end, n));
        }
    }

    /** All that THE IMAGE keeps. */
    private static final class State {
        private int ruleCount;
        private final Rule[] rules = new Rule[MOST_RULES];
        private int cardCount;
        private final int[] lit = new int[MOST_CARDS];
        private final boolean[] yes = new boolean[MOST_CARDS];
        private int eyeCount;
        private final Eye[] eyes = new Eye[MOST_EYES];
        private int turnerCount;
        private final Turner[] turners = new Turner[MOST_TURNERS];
        private int claimCount;
        private final Claim[] claims = new Claim[MOST_CLAIMS];

        State() {
            for (int n = 0; n < MOST_EYES; n++) {
                eyes[n] = new Eye();
            }
        }

        private void takeFrom(State other) {
            ruleCount = other.ruleCount;
            for (int n = 0; n < MOST_RULES; n++) {
                rules[n] = other.rules[n];
            }
            cardCount = other.cardCount;
            for (int n = 0; n < MOST_CARDS; n++) {
                lit[n] = other.lit[n];
                yes[n] = other.yes[n];
            }
            eyeCount = other.eyeCount;
            for (int n = 0; n < MOST_EYES; n++) {
                eyes[n].takeFrom(other.eyes[n]);
            }
            turnerCount = other.turnerCount;
            for (int n = 0; n < MOST_TURNERS; n++) {
                turners[n] = other.turners[n];
            }
            claimCount = other.claimCount;
            for (int n = 0; n < MOST_CLAIMS; n++) {
                claims[n] = other.claims[n];
            }
        }

        private int yesCards() {
            int many = 0;
            for (int card = 0; card < cardCount; card++) {
                if (yes[card]) {
                    many++;
                }
            }
            return many;
        }

        private int wiresInAll() {
            int many = 0;
            for (int n = 0; n < eyeCount; n++) {
                many += eyes[n].wires;
            }
            return many;
        }

        private int rightCards(Eye eye) {
            int many = 0;
            for (int card = 0; card < cardCount; card++) {
                if (eye.says(lit[card]) == yes[card]) {
                    many++;
                }
            }
            return many;
        }

        private boolean rightOnFirst(Eye eye, int cards) {
            for (int card = 0; card < cards && card < cardCount; card++) {
                if (eye.says(lit[card]) != yes[card]) {
                    return false;
                }
            }
            return true;
        }

        private boolean rightWithout(Eye eye, int lost) {
            for (int card = 0; card < cardCount; card++) {
                if (eye.saysWithout(lost, lit[card]) != yes[card]) {
                    return false;
                }
            }
            return true;
        }

        private int otherwiseWithout(Eye eye, int cell) {
            int many = 0;
            for (int card = 0; card < cardCount; card++) {
                if (eye.says(lit[card]) != eye.says(lit[card] & ~(1 << cell))) {
                    many++;
                }
            }
            return many;
        }

        private int goingAlong(int cell) {
            int many = 0;
            for (int card = 0; card < cardCount; card++) {
                if (isLit(lit[card], cell) == yes[card]) {
                    many++;
                }
            }
            return many;
        }

        private int blindPair(Eye eye) {
            for (int less = 0; less < cardCount; less++) {
                int values = eye.valuesOf(lit[less]);
                for (int more = less + 1; more < cardCount; more++) {
                    if (yes[less] != yes[more] && eye.valuesOf(lit[more]) == values) {
                        return 20 * less + more;
                    }
                }
            }
            return NONE;
        }

        private int eyesSayingYes(int asked) {
            int many = 0;
            for (int n = 0; n < eyeCount; n++) {
                if (eyes[n].says(asked)) {
                    many++;
                }
            }
            return many;
        }
    }

    /** Of cards that are told in rising order, the first one of like VALUES. */
    private static final class Likes {
        private static final int SLOTS = 65536;
        private final int[] keys = new int[SLOTS];
        /** The first card, and above its 16 bits the pass that wrote it, so that no pass must clear the slots. */
        private final int[] firsts = new int[SLOTS];
        private int pass;

        private void begin() {
            pass++;
        }

        private int firstLike(int values, int lit) {
            int slot = (values * 0x9E3779B1) >>> 16;
            // there are as many slots as cards, so that a free one is always met
            for (int tries = 0; tries < SLOTS; tries++) {
                if (firsts[slot] >>> 16 != pass) {
                    firsts[slot] = pass << 16 | lit;
                    keys[slot] = values;
                    return lit;
                }
                if (keys[slot] == values) {
                    return firsts[slot] & 0xFFFF;
                }
                slot = slot + 1 & SLOTS - 1;
            }
            return lit;
        }
    }

    /**
     * Goes through all KNOBS from - K to K by which each yes card is seen above each no card.
     * A column is what is added up as one KNOB after the other is chosen: first one for each such pair
     * of cards (how far the yes card is above), then one for each single card that is watched.
     */
    private static final class Search {
        private static final int MOST_PAIRS = MOST_CARDS * MOST_CARDS / 4;
        private static final int COLUMNS = MOST_PAIRS + MOST_CARDS + ASKED;

        /** What a KNOB of 1 adds to a column. */
        private final int[][] adds = new int[MOST_WIRES][COLUMNS];
        /** The most that this WIRE and those behind it can add to a column. */
        private final int[][] reach = new int[MOST_WIRES + 1][COLUMNS];
        private final int[][] sums = new int[MOST_WIRES + 1][COLUMNS];
        private final int[] tried = new int[MOST_WIRES];
        private int pairs;
        private int columns;
        private int wires;
        private int k;
        private boolean stopAtFirst;
        private boolean countEyes;
        /** Behind the columns of yes cards, and of no cards, that are watched. */
        private int yesEnd;
        private int noEnd;
        private int asked;

        /** Whether there were any; of them the least KNOBS, and these without signs together. */
        private boolean any;
        private final int[] best = new int[MOST_WIRES];
        private int least;
        /** With LINES: how many eyes, and how many of these say yes to each ASKED card. */
        private int eyes;
        private final int[] sayYes = new int[ASKED];

        /** Whether there are any by which the first cards are right. */
        private void first(Eye eye, State state, int many, int itsK) {
            begin(eye, state, many, itsK);
            stopAtFirst = true;
            run();
        }

        /** FOUND. */
        private void leastOf(Eye eye, State state, int itsK) {
            begin(eye, state, state.cardCount, itsK);
            run();
        }

        /** READ, and of the first so many ASKED cards how many of the eyes say yes. */
        private void each(Eye eye, State state, int itsK, int manyAsked) {
            begin(eye, state, state.cardCount, itsK);
            countEyes = true;
            asked = Math.min(manyAsked, ASKED);
            addCards(eye, state, true);
            yesEnd = columns;
            addCards(eye, state, false);
            noEnd = columns;
            for (int card = 0; card < asked; card++) {
                sayYes[card] = 0;
                addColumn(eye, card < CELLS ? 1 << card : 3 << card - CELLS, 0);
            }
            run();
        }

        private void addCards(Eye eye, State state, boolean yes) {
            for (int card = 0; card < state.cardCount; card++) {
                if (state.yes[card] == yes) {
                    addColumn(eye, state.lit[card], 0);
                }
            }
        }

        private void begin(Eye eye, State state, int many, int itsK) {
            wires = eye.wires;
            k = itsK;
            columns = 0;
            for (int high = 0; high < many && high < state.cardCount; high++) {
                for (int low = 0; low < many && low < state.cardCount; low++) {
                    if (state.yes[high] && !state.yes[low]) {
                        addColumn(eye, state.lit[high], state.lit[low]);
                    }
                }
            }
            pairs = columns;
            stopAtFirst = false;
            countEyes = false;
            any = false;
            least = BEYOND;
            eyes = 0;
        }

        /** A card less another one; less the card 0, of which all VALUES are 0, it stands alone. */
        private void addColumn(Eye eye, int lit, int less) {
            if (columns >= COLUMNS) {
                return;
            }
            for (int wire = 0; wire < wires && wire < MOST_WIRES; wire++) {
                adds[wire][columns] = eye.valueOf(wire, lit) - eye.valueOf(wire, less);
            }
            columns++;
        }

        private void run() {
            boolean may = true;
            for (int column = 0; column < columns; column++) {
                sums[0][column] = 0;
                reach[wires][column] = 0;
                for (int wire = wires - 1; wire >= 0; wire--) {
                    reach[wire][column] = reach[wire + 1][column] + k * Math.abs(adds[wire][column]);
                }
                may &= column >= pairs || reach[0][column] > 0;
            }
            if (may) {
                choose(0, 0);
            }
        }

        /** Chooses the KNOB of a WIRE; together: those ahead of it, without signs. */
        private void choose(int wire, int together) {
            if (wire >= wires || wire >= MOST_WIRES) {
                take(together);
                return;
            }
            for (int knob = -k; knob <= k; knob++) {
                int more = together + Math.abs(knob);
                if (more < least && addsUp(wire, knob)) {
                    tried[wire] = knob;
                    choose(wire + 1, more);
                }
            }
        }

        /** Adds a KNOB to all columns; false if some pair cannot come to more than 0 any longer. */
        private boolean addsUp(int wire, int knob) {
            int[] from = sums[wire];
            int[] to = sums[wire + 1];
            int[] add = adds[wire];
            int[] rest = reach[wire + 1];
            for (int column = 0; column < columns; column++) {
                int sum = from[column] + knob * add[column];
                if (column < pairs && sum + rest[column] <= 0) {
                    return false;
                }
                to[column] = sum;
            }
            return true;
        }

        private void take(int together) {
            any = true;
            if (countEyes) {
                countLines();
                return;
            }
            // what comes later in this order counts only if it is less
            least = stopAtFirst ? 0 : together;
            for (int wire = 0; wire < wires; wire++) {
                best[wire] = tried[wire];
            }
        }

        /** Counts the LINES from - 9 to 9 by which all cards are right. */
        private void countLines() {
            int low = -READ_LINE;
            int high = READ_LINE;
            int[] sum = sums[wires];
            for (int column = pairs; column < yesEnd; column++) {
                high = Math.min(high, sum[column] - 1);
            }
            for (int column = yesEnd; column < noEnd; column++) {
                low = Math.max(low, sum[column]);
            }
            if (low > high) {
                return;
            }
            eyes += high - low + 1;
            for (int card = 0; card < asked; card++) {
                int below = Math.min(high, sum[noEnd + card] - 1);
                sayYes[card] += Math.max(0, below - low + 1);
            }
        }
    }
}
