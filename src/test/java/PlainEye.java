import java.util.ArrayList;
import java.util.Arrays;
import java.util.HashMap;
import java.util.List;
import java.util.Map;
import java.util.NoSuchElementException;
import java.util.Set;
import java.util.function.Predicate;
import java.util.function.ToLongFunction;
import java.util.regex.Matcher;
import java.util.regex.Pattern;

/** The document once more, as plainly as it can be told and without a thought of speed: what KnobEye is held against. */
public final class PlainEye {
    private static final int NONE = -1;

    private static final Set<String> RULE_TAGS = Set.of("piece", "even", "c");
    private static final Set<String> RULE_FACTS = Set.of("lit", "left", "right", "up", "rows");
    private static final Set<String> TURNER_TAGS = Set.of("wrong", "yes");
    private static final Set<String> TURNER_FACTS = Set.of("far", "value", "knob", "shown");
    private static final Set<String> CLAIM_TAGS = Set.of("blind");
    private static final Set<String> CLAIM_FACTS = Set.of("right", "cards", "unseen", "shown", "knobs");

    private interface Env {
        long fact(String name);
        boolean tag(String name, int n);
    }

    private static final class Wrong extends Exception {
        final int at;
        Wrong(int at) {
            super(null, null, false, false);
            this.at = at;
        }
    }

    private record Token(String text, int at) {
    }

    private record TurnLine(boolean turn, int number, Predicate<Env> cond) {
    }

    private record Claim(int eye, int rule, Predicate<Env> cond) {
    }

    private record Card(int lit, boolean yes) {
    }

    private record Wire(int cells, int kind) {
        int value(int lit) {
            int count = 0;
            int size = 0;
            for (int cell = 0; cell < 16; cell++) {
                if ((cells & 1 << cell) != 0) {
                    size++;
                    if ((lit & 1 << cell) != 0) {
                        count++;
                    }
                }
            }
            if (kind == 0) {
                return count;
            }
            return kind == 1 ? (count == size ? 1 : 0) : count % 2;
        }
    }

    private static final class Eye {
        final List<Wire> wires = new ArrayList<>();
        final List<Integer> knobs = new ArrayList<>();
        int line;
        int shown;
        int stuck;
        int falls;

        Eye copy() {
            Eye c = new Eye();
            c.wires.addAll(wires);
            c.knobs.addAll(knobs);
            c.line = line;
            c.shown = shown;
            c.stuck = stuck;
            c.falls = falls;
            return c;
        }

        List<Integer> values(int lit) {
            List<Integer> all = new ArrayList<>();
            for (Wire wire : wires) {
                all.add(wire.value(lit));
            }
            return all;
        }

        int sees(int lit) {
            return times(knobs, values(lit));
        }

        boolean says(int lit) {
            return sees(lit) > line;
        }
    }

    private static final class All {
        List<Predicate<Env>> rules = new ArrayList<>();
        List<Card> cards = new ArrayList<>();
        List<Eye> eyes = new ArrayList<>();
        List<List<TurnLine>> turners = new ArrayList<>();
        List<Claim> claims = new ArrayList<>();

        All copy() {
            All c = new All();
            c.rules.addAll(rules);
            c.cards.addAll(cards);
            for (Eye eye : eyes) {
                c.eyes.add(eye.copy());
            }
            c.turners.addAll(turners);
            c.claims.addAll(claims);
            return c;
        }
    }

    private All all = new All();
    private All kept;
    private List<Integer> tape = new ArrayList<>();
    private int fault = NONE;

    private static int times(List<Integer> knobs, List<Integer> values) {
        int sum = 0;
        for (int i = 0; i < knobs.size(); i++) {
            sum += knobs.get(i) * values.get(i);
        }
        return sum;
    }

    // ---- texts

    private static final class Parser {
        final List<Token> tokens = new ArrayList<>();
        final Set<String> tags;
        final Set<String> facts;
        int at;

        Parser(String text, Set<String> tags, Set<String> facts) {
            this.tags = tags;
            this.facts = facts;
            Matcher m = Pattern.compile("[a-z]+|[0-9]+|[^ ]", Pattern.DOTALL).matcher(text);
            while (m.find()) {
                tokens.add(new Token(m.group(), m.start()));
            }
            tokens.add(new Token("", text.length()));
        }

        String peek() {
            return tokens.get(at).text;
        }

        Wrong wrong() {
            return new Wrong(tokens.get(at).at);
        }

        boolean take(String text) {
            if (peek().equals(text)) {
                at++;
                return true;
            }
            return false;
        }

        void need(String text) throws Wrong {
            if (!take(text)) {
                throw wrong();
            }
        }

        int number(int most) throws Wrong {
            if (!peek().matches("[0-9]{1,4}") || Integer.parseInt(peek()) > most) {
                throw wrong();
            }
            return Integer.parseInt(tokens.get(at++).text);
        }

        Predicate<Env> c(int depth) throws Wrong {
            Predicate<Env> p = all(depth);
            while (take("or")) {
                p = p.or(all(depth));
            }
            return p;
        }

        Predicate<Env> all(int depth) throws Wrong {
            Predicate<Env> p = atom(depth);
            while (take("and")) {
                p = p.and(atom(depth));
            }
            return p;
        }

        Predicate<Env> atom(int depth) throws Wrong {
            if (peek().equals("not") || peek().equals("(")) {
                if (depth == 6) {
                    throw wrong();
                }
                if (take("not")) {
                    return atom(depth + 1).negate();
                }
                need("(");
                Predicate<Env> p = c(depth + 1);
                need(")");
                return p;
            }
            if (tags.contains(peek())) {
                String tag = tokens.get(at++).text;
                int n = tag.equals("c") ? number(15) : 0;
                return e -> e.tag(tag, n);
            }
            ToLongFunction<Env> a = sum();
            if (take("<")) {
                ToLongFunction<Env> b = sum();
                return e -> a.applyAsLong(e) < b.applyAsLong(e);
            }
            need(">");
            ToLongFunction<Env> b = sum();
            return e -> a.applyAsLong(e) > b.applyAsLong(e);
        }

        ToLongFunction<Env> sum() throws Wrong {
            List<ToLongFunction<Env>> parts = new ArrayList<>();
            do {
                parts.add(part());
            } while (take("+"));
            return e -> {
                long sum = 0;
                for (ToLongFunction<Env> part : parts) {
                    sum += part.applyAsLong(e);
                }
                return sum;
            };
        }

        ToLongFunction<Env> part() throws Wrong {
            if (facts.contains(peek())) {
                String fact = tokens.get(at++).text;
                return e -> e.fact(fact);
            }
            int n = number(9999);
            if (take("*")) {
                if (!facts.contains(peek())) {
                    throw wrong();
                }
                String fact = tokens.get(at++).text;
                return e -> n * e.fact(fact);
            }
            return e -> n;
        }

        void end() throws Wrong {
            need("");
        }
    }

    private String takeText() {
        StringBuilder text = new StringBuilder();
        for (int b : tape) {
            text.append((char) b);
        }
        tape.clear();
        fault = NONE;
        return text.toString();
    }

    private Predicate<Env> takeCond(Set<String> tags, Set<String> facts) {
        Parser parser = new Parser(takeText(), tags, facts);
        try {
            Predicate<Env> cond = parser.c(0);
            parser.end();
            return cond;
        } catch (Wrong e) {
            fault = e.at;
            return null;
        }
    }

    private static Env cardEnv(int lit) {
        return new Env() {
            @Override
            public long fact(String name) {
                int n = 0;
                boolean[] rows = new boolean[4];
                for (int cell = 0; cell < 16; cell++) {
                    int x = cell % 4;
                    int y = cell / 4;
                    if ((lit & 1 << cell) != 0) {
                        rows[y] = true;
                        boolean counts = switch (name) {
                            case "lit" -> true;
                            case "left" -> x < 2;
                            case "right" -> x > 1;
                            case "up" -> y < 2;
                            default -> false;
                        };
                        n += counts ? 1 : 0;
                    }
                }
                if (name.equals("rows")) {
                    for (boolean row : rows) {
                        n += row ? 1 : 0;
                    }
                }
                return n;
            }

            @Override
            public boolean tag(String name, int n) {
                return switch (name) {
                    case "c" -> (lit >> n) % 2 != 0;
                    case "even" -> Integer.bitCount(lit) % 2 == 0;
                    default -> inOnePiece(lit);
                };
            }
        };
    }

    private static boolean inOnePiece(int lit) {
        if (lit == 0) {
            return false;
        }
        boolean[] seen = new boolean[16];
        ArrayList<Integer> todo = new ArrayList<>();
        todo.add(Integer.numberOfTrailingZeros(lit));
        int many = 0;
        while (!todo.isEmpty()) {
            int cell = todo.remove(todo.size() - 1);
            if (seen[cell]) {
                continue;
            }
            seen[cell] = true;
            many++;
            for (int other = 0; other < 16; other++) {
                int apart = Math.abs(other % 4 - cell % 4) + Math.abs(other / 4 - cell / 4);
                if (apart == 1 && (lit & 1 << other) != 0) {
                    todo.add(other);
                }
            }
        }
        return many == Integer.bitCount(lit);
    }

    // ---- tests of arguments

    private Eye eyeAt(int n) {
        if (n < 0 || n >= all.eyes.size()) {
            throw new IndexOutOfBoundsException();
        }
        return all.eyes.get(n);
    }

    private Predicate<Env> ruleAt(int n) {
        if (n < 0 || n >= all.rules.size()) {
            throw new IndexOutOfBoundsException();
        }
        return all.rules.get(n);
    }

    private List<TurnLine> turnerAt(int n) {
        if (n < 0 || n >= all.turners.size()) {
            throw new IndexOutOfBoundsException();
        }
        return all.turners.get(n);
    }

    private static void index(int n, int size) {
        if (n < 0 || n >= size) {
            throw new IndexOutOfBoundsException();
        }
    }

    private static void within(int n, int least, int most) {
        if (n < least || n > most) {
            throw new IllegalArgumentException();
        }
    }

    private static void room(int size, int most) {
        if (size >= most) {
            throw new UnsupportedOperationException();
        }
    }

    // ---- the face

    public int feed(int a, int b, int c, int d, int e) {
        if (tape.size() + 20 > 400) {
            return NONE;
        }
        for (int n : new int[] {a, b, c, d, e}) {
            for (byte by : java.nio.ByteBuffer.allocate(4).putInt(n).array()) {
                tape.add(Byte.toUnsignedInt(by));
            }
        }
        return tape.size();
    }

    public boolean end(int n) {
        if (n < 0 || n > tape.size()) {
            return false;
        }
        tape = new ArrayList<>(tape.subList(0, n));
        return true;
    }

    public int rule() {
        Predicate<Env> cond = takeCond(RULE_TAGS, RULE_FACTS);
        if (cond == null) {
            throw new IllegalArgumentException();
        }
        room(all.rules.size(), 4);
        all.rules.add(cond);
        return all.rules.size() - 1;
    }

    public int turner() {
        Parser parser = new Parser(takeText(), TURNER_TAGS, TURNER_FACTS);
        List<TurnLine> lines = new ArrayList<>();
        try {
            if (!parser.peek().isEmpty()) {
                do {
                    if (lines.size() == 10) {
                        throw parser.wrong();
                    }
                    boolean turn = parser.take("turn");
                    if (!turn) {
                        parser.need("line");
                    }
                    int number = parser.number(50);
                    lines.add(new TurnLine(turn, number, parser.take("if") ? parser.c(0) : e -> true));
                } while (parser.take(";"));
                parser.end();
            }
        } catch (Wrong e) {
            fault = e.at;
            throw new IllegalArgumentException();
        }
        room(all.turners.size(), 4);
        all.turners.add(lines);
        return all.turners.size() - 1;
    }

    public int claim(int eye, int rule) {
        Predicate<Env> cond = takeCond(CLAIM_TAGS, CLAIM_FACTS);
        eyeAt(eye);
        ruleAt(rule);
        if (cond == null) {
            throw new IllegalArgumentException();
        }
        room(all.claims.size(), 6);
        all.claims.add(new Claim(eye, rule, cond));
        return all.claims.size() - 1;
    }

    public int fault() {
        return fault;
    }

    public boolean right(int rule, int lit) {
        Predicate<Env> told = ruleAt(rule);
        within(lit, 0, 65535);
        return told.test(cardEnv(lit));
    }

    public int card(int lit, boolean yes) {
        within(lit, 0, 65535);
        room(all.cards.size(), 20);
        all.cards.add(new Card(lit, yes));
        return all.cards.size() - 1;
    }

    public int made(int lit, int rule) {
        return card(lit, right(rule, lit));
    }

    public int away() {
        if (all.cards.isEmpty()) {
            return NONE;
        }
        all.cards.remove(all.cards.size() - 1);
        return all.cards.size();
    }

    public int eye() {
        room(all.eyes.size(), 3);
        all.eyes.add(new Eye());
        return all.eyes.size() - 1;
    }

    public int wire(int eye, int cells, int kind) {
        Eye e = eyeAt(eye);
        within(cells, 1, 65535);
        within(kind, 0, 2);
        room(e.wires.size(), 6);
        e.wires.add(new Wire(cells, kind));
        e.knobs.add(0);
        return e.wires.size() - 1;
    }

    public boolean knob(int eye, int wire, int n) {
        Eye e = eyeAt(eye);
        int was;
        if (wire == NONE) {
            within(n, -2000, 2000);
            was = e.line;
            e.line = n;
        } else {
            index(wire, e.wires.size());
            within(n, -200, 200);
            was = e.knobs.set(wire, n);
        }
        return was != n;
    }

    public void stuck(int eye, int knobs, int falls) {
        Eye e = eyeAt(eye);
        within(knobs, 0, 127);
        within(falls, 0, 50);
        e.stuck = knobs;
        e.falls = falls;
    }

    public int look(int eye, int what) {
        Eye e = eyeAt(eye);
        if (what < 0 || what > 12) {
            throw new NoSuchElementException();
        }
        if (what < 6) {
            return what < e.knobs.size() ? e.knobs.get(what) : 0;
        }
        return switch (what) {
            case 6 -> e.line;
            case 7 -> e.wires.size();
            case 8 -> e.shown;
            case 9 -> e.stuck;
            case 10 -> e.falls;
            case 11 -> (int) all.cards.stream().filter(c -> e.says(c.lit) == c.yes).count();
            default -> near(e);
        };
    }

    /** The least side of squares in which the cells of each wire have room: tried by laying squares everywhere. */
    private static int near(Eye e) {
        int near = 0;
        for (Wire wire : e.wires) {
            int side = 1;
            while (!hasRoom(wire.cells, side)) {
                side++;
            }
            near = Math.max(near, side);
        }
        return near;
    }

    private static boolean hasRoom(int cells, int side) {
        for (int top = 0; top + side <= 4; top++) {
            for (int left = 0; left + side <= 4; left++) {
                int square = 0;
                for (int y = top; y < top + side; y++) {
                    for (int x = left; x < left + side; x++) {
                        square |= 1 << 4 * y + x;
                    }
                }
                if ((cells & ~square) == 0) {
                    return true;
                }
            }
        }
        return false;
    }

    public int sees(int eye, int lit) {
        Eye e = eyeAt(eye);
        within(lit, 0, 65535);
        return e.sees(lit);
    }

    public boolean show(int eye, int card, int turner) {
        Eye e = eyeAt(eye);
        index(card, all.cards.size());
        return show(e, all.cards.get(card), turnerAt(turner));
    }

    private static boolean show(Eye e, Card card, List<TurnLine> turner) {
        e.shown++;
        Eye was = e.copy();
        boolean wrong = was.says(card.lit) != card.yes;
        long far = Math.abs(was.sees(card.lit) - was.line);
        for (int w = 0; w < was.wires.size(); w++) {
            int value = was.wires.get(w).value(card.lit);
            long knob = Math.abs(was.knobs.get(w));
            int by = firstNumber(turner, true, turnEnv(wrong, card.yes, Map.of("far", far, "value", (long) value,
                    "knob", knob, "shown", (long) was.shown)));
            if ((was.stuck & 1 << w) == 0) {
                int n = was.knobs.get(w) + (card.yes ? by * value : -by * value);
                e.knobs.set(w, n > 200 ? 200 : n < -200 ? -200 : n);
            }
        }
        if ((was.stuck & 64) == 0) {
            int by = firstNumber(turner, false, turnEnv(wrong, card.yes, Map.of("far", far, "value", 0L,
                    "knob", (long) Math.abs(was.line), "shown", (long) was.shown)));
            int n = card.yes ? was.line - by : was.line + by;
            e.line = n > 2000 ? 2000 : n < -2000 ? -2000 : n;
        }
        if (e.falls != 0 && e.shown % e.falls == 0) {
            for (int w = 0; w < e.wires.size(); w++) {
                int n = e.knobs.get(w);
                if ((e.stuck & 1 << w) == 0 && n != 0) {
                    e.knobs.set(w, n > 0 ? n - 1 : n + 1);
                }
            }
        }
        return wrong;
    }

    private static Env turnEnv(boolean wrong, boolean yes, Map<String, Long> facts) {
        return new Env() {
            @Override
            public long fact(String name) {
                return facts.get(name);
            }

            @Override
            public boolean tag(String name, int n) {
                return name.equals("wrong") ? wrong : yes;
            }
        };
    }

    private static int firstNumber(List<TurnLine> turner, boolean turn, Env env) {
        for (TurnLine line : turner) {
            if (line.turn == turn && line.cond.test(env)) {
                return line.number;
            }
        }
        return 0;
    }

    public int turned(int eye, int turner, int rounds) {
        Eye e = eyeAt(eye);
        List<TurnLine> by = turnerAt(turner);
        within(rounds, 1, 60);
        for (int n = 1; n <= rounds; n++) {
            int wrong = 0;
            for (Card card : all.cards) {
                wrong += show(e, card, by) ? 1 : 0;
            }
            if (wrong == 0) {
                return n;
            }
        }
        return NONE;
    }

    /** All knobs from -k to k, the least first knob first, then the second one, and so on. */
    private static List<List<Integer>> allKnobs(int wires, int k) {
        List<List<Integer>> rows = new ArrayList<>();
        rows.add(new ArrayList<>());
        for (int w = 0; w < wires; w++) {
            List<List<Integer>> longer = new ArrayList<>();
            for (List<Integer> row : rows) {
                for (int n = -k; n <= k; n++) {
                    List<Integer> more = new ArrayList<>(row);
                    more.add(n);
                    longer.add(more);
                }
            }
            rows = longer;
        }
        return rows;
    }

    private static boolean rightByALine(Eye e, List<Integer> knobs, List<Card> cards) {
        int leastYes = Integer.MAX_VALUE;
        int greatestNo = Integer.MIN_VALUE;
        for (Card card : cards) {
            int sees = times(knobs, e.values(card.lit));
            if (card.yes) {
                leastYes = Math.min(leastYes, sees);
            } else {
                greatestNo = Math.max(greatestNo, sees);
            }
        }
        return leastYes > greatestNo;
    }

    private static int without(List<Integer> knobs) {
        return knobs.stream().mapToInt(Math::abs).sum();
    }

    private List<Integer> foundKnobs(Eye e, int k, List<Card> cards) {
        List<Integer> best = null;
        for (List<Integer> knobs : allKnobs(e.wires.size(), k)) {
            if ((best == null || without(knobs) < without(best)) && rightByALine(e, knobs, cards)) {
                best = knobs;
            }
        }
        return best;
    }

    public boolean can(int eye, int k) {
        Eye e = eyeAt(eye);
        within(k, 1, 3);
        return foundKnobs(e, k, all.cards) != null;
    }

    public int found(int eye, int k, int what) {
        Eye e = eyeAt(eye);
        within(k, 1, 3);
        if (what < 0 || what > 7) {
            throw new NoSuchElementException();
        }
        List<Integer> knobs = foundKnobs(e, k, all.cards);
        if (knobs == null) {
            return 9999;
        }
        if (what == 7) {
            return without(knobs);
        }
        if (what < 6) {
            return what < knobs.size() ? knobs.get(what) : 0;
        }
        if (all.cards.isEmpty()) {
            return 0;
        }
        return all.cards.stream().filter(c -> !c.yes).mapToInt(c -> times(knobs, e.values(c.lit))).max()
                .orElseGet(() -> all.cards.stream().mapToInt(c -> times(knobs, e.values(c.lit))).min().getAsInt() - 1);
    }

    public int bars(int eye, int k) {
        Eye e = eyeAt(eye);
        within(k, 1, 3);
        for (int n = 0; n < all.cards.size(); n++) {
            if (foundKnobs(e, k, all.cards.subList(0, n + 1)) == null) {
                return n;
            }
        }
        return NONE;
    }

    public int bound(int eye, int k) {
        Eye e = eyeAt(eye);
        within(k, 1, 3);
        List<Integer> knobs = foundKnobs(e, k, all.cards);
        long yes = all.cards.stream().filter(Card::yes).count();
        if (knobs == null || yes == 0 || yes == all.cards.size()) {
            return NONE;
        }
        long y = all.cards.stream().filter(c -> c.yes).mapToInt(c -> times(knobs, e.values(c.lit))).min().getAsInt();
        long n = all.cards.stream().filter(c -> !c.yes).mapToInt(c -> times(knobs, e.values(c.lit))).max().getAsInt();
        long r = all.cards.stream().mapToInt(c -> times(e.values(c.lit), e.values(c.lit)) + 1).max().getAsInt();
        return (int) Math.floorDiv(r * (4L * times(knobs, knobs) + (y + n) * (y + n)), (y - n) * (y - n));
    }

    private int blindPair(Eye e) {
        for (int a = 0; a < all.cards.size(); a++) {
            for (int b = a + 1; b < all.cards.size(); b++) {
                Card one = all.cards.get(a);
                Card other = all.cards.get(b);
                if (one.yes != other.yes && e.values(one.lit).equals(e.values(other.lit))) {
                    return 20 * a + b;
                }
            }
        }
        return NONE;
    }

    public int blind(int eye, int rule) {
        Eye e = eyeAt(eye);
        if (rule == NONE) {
            return blindPair(e);
        }
        Predicate<Env> told = ruleAt(rule);
        Map<List<Integer>, boolean[]> greater = new HashMap<>();
        int least = NONE;
        for (int lit = 65535; lit >= 0; lit--) {
            boolean yes = told.test(cardEnv(lit));
            boolean[] there = greater.computeIfAbsent(e.values(lit), v -> new boolean[2]);
            if (there[yes ? 0 : 1]) {
                least = lit;
            }
            there[yes ? 1 : 0] = true;
        }
        return least;
    }

    public int odds(int eye, int rule, int lit) {
        Eye e = eyeAt(eye);
        Predicate<Env> told = ruleAt(rule);
        within(lit, NONE, 16);
        int many = 0;
        for (int card = 0; card < 65536; card++) {
            if ((lit == NONE || cardEnv(card).fact("lit") == lit) && e.says(card) == told.test(cardEnv(card))) {
                many++;
            }
        }
        return many;
    }

    public int covered(int eye, int cell) {
        Eye e = eyeAt(eye);
        index(cell, 16);
        int many = 0;
        for (Card card : all.cards) {
            int dark = (card.lit >> cell) % 2 == 1 ? card.lit - (1 << cell) : card.lit;
            many += e.says(card.lit) != e.says(dark) ? 1 : 0;
        }
        return many;
    }

    public int goesBy(int eye) {
        int by = NONE;
        eyeAt(eye);
        for (int cell = 15; cell >= 0; cell--) {
            if (covered(eye, cell) > 0 && (by == NONE || covered(eye, cell) >= covered(eye, by))) {
                by = cell;
            }
        }
        return by;
    }

    public int along(int cell) {
        index(cell, 16);
        return (int) all.cards.stream().filter(c -> ((c.lit >> cell) % 2 == 1) == c.yes).count();
    }

    public int cloud() {
        int cloud = NONE;
        for (int cell = 15; cell >= 0 && !all.cards.isEmpty(); cell--) {
            if (cloud == NONE || along(cell) >= along(cloud)) {
                cloud = cell;
            }
        }
        return cloud;
    }

    public int mend(int cell, int rule) {
        index(cell, 16);
        Predicate<Env> told = ruleAt(rule);
        int more = 0;
        while (2 * along(cell) > all.cards.size() + more) {
            more++;
        }
        if (more == 0) {
            return 0;
        }
        for (int lit = 0; lit < 65536; lit++) {
            if (((lit >> cell) % 2 == 1) != told.test(cardEnv(lit))) {
                return more;
            }
        }
        return NONE;
    }

    public int bear(int eye) {
        Eye e = eyeAt(eye);
        int bear = NONE;
        for (int most = 0; most <= e.wires.size(); most++) {
            for (int lost = 0; lost < 1 << e.wires.size(); lost++) {
                if (Integer.bitCount(lost) > most) {
                    continue;
                }
                for (Card card : all.cards) {
                    List<Integer> values = e.values(card.lit);
                    for (int w = 0; w < values.size(); w++) {
                        if ((lost & 1 << w) != 0) {
                            values.set(w, 0);
                        }
                    }
                    if (times(e.knobs, values) > e.line != card.yes) {
                        return bear;
                    }
                }
            }
            bear = most;
        }
        return bear;
    }

    public int swapped(int eye, int a, int b) {
        Eye e = eyeAt(eye);
        index(a, e.wires.size());
        index(b, e.wires.size());
        Eye other = e.copy();
        other.wires.set(a, e.wires.get(b));
        other.wires.set(b, e.wires.get(a));
        return (int) all.cards.stream().filter(c -> e.says(c.lit) != other.says(c.lit)).count();
    }

    public int soonest(int eye, int turner) {
        Eye e = eyeAt(eye);
        List<TurnLine> by = turnerAt(turner);
        List<Card> first = all.cards.subList(0, Math.min(5, all.cards.size()));
        int best = Integer.MAX_VALUE;
        for (List<Card> order : orders(first)) {
            List<Card> tenTimes = new ArrayList<>();
            for (int n = 0; n < 10; n++) {
                tenTimes.addAll(order);
            }
            Eye tried = e.copy();
            int shown = 0;
            boolean right = allRight(tried, first);
            while (!right && shown < tenTimes.size()) {
                show(tried, tenTimes.get(shown), by);
                shown++;
                right = allRight(tried, first);
            }
            if (right) {
                best = Math.min(best, shown);
            }
        }
        return best == Integer.MAX_VALUE ? NONE : best;
    }

    private static boolean allRight(Eye e, List<Card> cards) {
        return cards.stream().allMatch(c -> e.says(c.lit) == c.yes);
    }

    private static List<List<Card>> orders(List<Card> cards) {
        List<List<Card>> orders = new ArrayList<>();
        if (cards.isEmpty()) {
            orders.add(new ArrayList<>());
        }
        for (int i = 0; i < cards.size(); i++) {
            List<Card> rest = new ArrayList<>(cards);
            Card first = rest.remove(i);
            for (List<Card> order : orders(rest)) {
                order.add(0, first);
                orders.add(order);
            }
        }
        return orders;
    }

    private boolean yesBy(int many, int lit) {
        return all.eyes.stream().filter(e -> e.says(lit)).count() >= many;
    }

    public boolean together(int many, int lit) {
        within(many, 1, 3);
        within(lit, 0, 65535);
        return yesBy(many, lit);
    }

    public int layer() {
        for (int many = 1; many <= 3 && !all.eyes.isEmpty(); many++) {
            int m = many;
            if (all.cards.stream().allMatch(c -> yesBy(m, c.lit) == c.yes)) {
                return many;
            }
        }
        return NONE;
    }

    public int read(int eye, int k, boolean next) {
        Eye e = eyeAt(eye);
        within(k, 1, 2);
        int eyes = 0;
        int[] yes = new int[31];
        for (List<Integer> knobs : allKnobs(e.wires.size(), k)) {
            if (!rightByALine(e, knobs, all.cards)) {
                continue;
            }
            for (int line = -9; line <= 9; line++) {
                int l = line;
                if (all.cards.stream().allMatch(c -> times(knobs, e.values(c.lit)) > l == c.yes)) {
                    eyes++;
                    for (int n = 0; next && n < 31; n++) {
                        int lit = n < 16 ? 1 << n : (1 << n - 16) + (1 << n - 15);
                        yes[n] += times(knobs, e.values(lit)) > l ? 1 : 0;
                    }
                }
            }
        }
        if (!next) {
            return eyes;
        }
        int best = NONE;
        int fewest = Integer.MAX_VALUE;
        for (int n = 0; n < 31 && eyes > 0; n++) {
            int frequent = Math.max(yes[n], eyes - yes[n]);
            if (frequent < fewest) {
                fewest = frequent;
                best = n < 16 ? 16 * 1 + n : 16 * 2 + (n - 16);
            }
        }
        return best;
    }

    public boolean holds(int claim) {
        index(claim, all.claims.size());
        Claim c = all.claims.get(claim);
        Eye e = eyeAt(c.eye);
        Map<String, Long> known = new HashMap<>();
        return c.cond.test(new Env() {
            @Override
            public long fact(String name) {
                return known.computeIfAbsent(name, n -> (long) switch (n) {
                    case "right" -> look(c.eye, 11);
                    case "cards" -> all.cards.size();
                    case "unseen" -> odds(c.eye, c.rule, NONE) / 656;
                    case "shown" -> e.shown;
                    default -> without(e.knobs);
                });
            }

            @Override
            public boolean tag(String name, int n) {
                return blindPair(e) != NONE;
            }
        });
    }

    public void image() {
        kept = all.copy();
    }

    public boolean back() {
        if (kept == null) {
            return false;
        }
        all = kept.copy();
        return true;
    }

    public int count(int what) {
        switch (what) {
            case 0:
                return all.rules.size();
            case 1:
                return all.cards.size();
            case 2:
                return (int) all.cards.stream().filter(Card::yes).count();
            case 3:
                return all.eyes.size();
            case 4:
                return all.turners.size();
            case 5:
                return all.claims.size();
            case 6:
                int many = 0;
                for (int n = 0; n < all.claims.size(); n++) {
                    many += holds(n) ? 1 : 0;
                }
                return many;
            case 7:
                return all.eyes.stream().mapToInt(e -> e.wires.size()).sum();
            default:
                return NONE;
        }
    }
}
