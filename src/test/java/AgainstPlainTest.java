import java.lang.reflect.InvocationTargetException;
import java.lang.reflect.Method;
import java.util.ArrayList;
import java.util.HashMap;
import java.util.List;
import java.util.Map;
import java.util.Random;

/** Long runs of calls, the same ones each time, of KnobEye and PlainEye side by side. Argument: how many runs. */
public final class AgainstPlainTest {
    private static final Map<String, Method> KNOB = methods(KnobEye.class);
    private static final Map<String, Method> PLAIN = methods(PlainEye.class);
    private static final Map<String, Integer> ANSWERS = new HashMap<>();
    private static int wrong;

    private final KnobEye knob = new KnobEye();
    private final PlainEye plain = new PlainEye();
    private final List<String> told = new ArrayList<>();
    private final Random random;
    private final int seed;
    private boolean failed;
    private int tape;
    private int eyes;
    private int rules;
    private int turners;

    private AgainstPlainTest(int seed) {
        this.seed = seed;
        this.random = new Random(seed);
    }

    public static void main(String[] args) {
        int runs = args.length > 0 ? Integer.parseInt(args[0]) : 60;
        int begin = args.length > 1 ? Integer.parseInt(args[1]) : 0;
        for (int seed = begin; seed < begin + runs && wrong < 5; seed++) {
            new AgainstPlainTest(seed).run();
        }
        if (args.length > 2) {
            ANSWERS.entrySet().stream().sorted(Map.Entry.comparingByKey())
                    .forEach(e -> System.out.println(e.getKey() + " " + e.getValue()));
        }
        System.out.println("AgainstPlainTest: " + runs + " runs, " + wrong + " wrong");
        if (wrong != 0) {
            System.exit(1);
        }
    }

    private static Map<String, Method> methods(Class<?> type) {
        Map<String, Method> all = new HashMap<>();
        for (Method method : type.getDeclaredMethods()) {
            if (java.lang.reflect.Modifier.isPublic(method.getModifiers())
                    && !java.lang.reflect.Modifier.isStatic(method.getModifiers())) {
                all.put(method.getName(), method);
            }
        }
        return all;
    }

    private static Object answer(Method method, Object of, Object[] args) {
        try {
            return method.invoke(of, args);
        } catch (InvocationTargetException e) {
            return "throws." + e.getCause().getClass().getSimpleName();
        } catch (IllegalAccessException e) {
            throw new IllegalStateException(e);
        }
    }

    private Object call(String name, Object... args) {
        if (failed) {
            return null;
        }
        Object got = answer(KNOB.get(name), knob, args);
        Object due = answer(PLAIN.get(name), plain, args);
        told.add(name + java.util.Arrays.toString(args) + " -> " + got);
        String kind = due instanceof String s ? s : due instanceof Integer n && n != -1 ? "n" : String.valueOf(due);
        ANSWERS.merge(name + " " + kind, 1, Integer::sum);
        if (got == null ? due != null : !got.equals(due)) {
            failed = true;
            wrong++;
            System.out.println("seed " + seed + ": due is " + due);
            told.subList(Math.max(0, told.size() - 60), told.size()).forEach(System.out::println);
        }
        return due;
    }

    private int pick(int bound) {
        return random.nextInt(bound);
    }

    private boolean chance(int percent) {
        return random.nextInt(100) < percent;
    }

    // ---- texts

    private void put(String text) {
        int tooMuch = (text.length() + 19) / 20 * 20;
        for (int i = 0; i < tooMuch; i += 20) {
            Object[] five = new Object[5];
            for (int j = 0; j < 5; j++) {
                int four = 0;
                for (int b = 0; b < 4; b++) {
                    int at = i + 4 * j + b;
                    four = four << 8 | (at < text.length() ? text.charAt(at) : pick(256));
                }
                five[j] = four;
            }
            call("feed", five);
        }
        call("end", text.length());
    }

    private static final String[][] TAGS = {{"piece", "even", "c "}, {"wrong", "yes"}, {"blind"}};
    private static final String[][] FACTS = {{"lit", "left", "right", "up", "rows"}, {"far", "value", "knob", "shown"},
        {"right", "cards", "unseen", "shown", "knobs"}};

    private String blank() {
        return chance(60) ? " " : chance(50) ? "" : "  ";
    }

    private String cond(int place, int depth) {
        StringBuilder text = new StringBuilder(atom(place, depth));
        for (int n = 0; n < 3 && chance(25); n++) {
            text.append(' ').append(chance(50) ? "and" : "or").append(' ').append(atom(place, depth));
        }
        return text.toString();
    }

    private String atom(int place, int depth) {
        if (chance(15) && depth < 7) {
            return "not " + atom(place, depth + 1);
        }
        if (chance(12) && depth < 7) {
            return "(" + blank() + cond(place, depth + 1) + blank() + ")";
        }
        if (chance(35)) {
            String tag = TAGS[place][pick(TAGS[place].length)];
            return tag.equals("c ") ? "c" + blank() + pick(chance(90) ? 16 : 18) : tag;
        }
        return sum(place) + blank() + (chance(50) ? "<" : ">") + blank() + sum(place);
    }

    private String sum(int place) {
        StringBuilder text = new StringBuilder(part(place));
        for (int n = 0; n < 3 && chance(30); n++) {
            text.append(blank()).append('+').append(blank()).append(part(place));
        }
        return text.toString();
    }

    private String part(int place) {
        String fact = FACTS[place][pick(FACTS[place].length)];
        if (chance(40)) {
            return fact;
        }
        String number = String.valueOf(chance(70) ? pick(8) : chance(90) ? pick(70) : pick(20000));
        return chance(60) ? number : number + blank() + "*" + blank() + fact;
    }

    private String turnerText() {
        StringBuilder text = new StringBuilder();
        int lines = chance(5) ? 9 + pick(3) : chance(8) ? 0 : 1 + pick(4);
        for (int n = 0; n < lines; n++) {
            text.append(n == 0 ? "" : blank() + ";" + blank()).append(chance(60) ? "turn" : "line").append(' ')
                    .append(chance(90) ? pick(4) : pick(53));
            if (lines < 9 && chance(65)) {
                text.append(" if ").append(chance(60) ? "wrong" : cond(1, 0));
            }
        }
        return text.toString();
    }

    private String spoiled(String text) {
        if (chance(72) || text.length() > 300) {
            return text;
        }
        StringBuilder other = new StringBuilder(text);
        String bits = " ()<>+*;09az:/`{@A\n\u00e9";
        for (int n = 0; n <= pick(2); n++) {
            int at = pick(other.length() + 1);
            if (chance(40) && at < other.length()) {
                other.deleteCharAt(at);
            } else if (chance(50)) {
                other.insert(at, bits.charAt(pick(bits.length())));
            } else {
                String[] words = {" and ", " or ", " not ", "(", ")", " if ", " 12345 ", ";", " lit ", " even "};
                other.insert(at, words[pick(words.length)]);
            }
        }
        return other.toString();
    }

    private void text(int place) {
        String text = spoiled(place == 1 ? turnerText() : cond(place, 0));
        text = (chance(15) ? "  " : "") + text + (chance(15) ? " " : "");
        put(text.length() > 380 ? text.substring(0, 380) : text);
        if (chance(2)) {
            call("feed", 1, 2, 3, 4, 5);
        }
        switch (place) {
            case 0 -> rules = grown(rules, call("rule"));
            case 1 -> turners = grown(turners, call("turner"));
            default -> call("claim", eye(), rule());
        }
        call("fault");
    }

    private static int grown(int many, Object answer) {
        return answer instanceof Integer n ? n + 1 : many;
    }

    // ---- arguments, most of them right

    private int about(int many) {
        return chance(95) && many > 0 ? pick(many) : pick(many + 3) - 1;
    }

    private int eye() {
        return about(eyes);
    }

    private int rule() {
        return about(rules);
    }

    private int turner() {
        return about(turners);
    }

    private int lit() {
        int lit = chance(40) ? pick(65536) & pick(65536) : chance(50) ? 1 << pick(16) | 1 << pick(16) : pick(65536);
        return chance(96) ? lit : chance(50) ? lit | 1 << 16 + pick(16) : -1 - pick(70000);
    }

    private int k(int most) {
        return chance(95) ? 1 + pick(chance(70) ? 1 : most) : pick(most + 3) - 1;
    }

    private int wires(int eye) {
        return answer(PLAIN.get("look"), plain, new Object[] {eye, 7}) instanceof Integer n ? n : 0;
    }

    // ---- runs

    private void run() {
        int most = chance(30) ? 6 : 1 + pick(4);
        for (int n = 0; n < 3 && (n == 0 || chance(50)); n++) {
            eyes = grown(eyes, call("eye"));
            for (int w = 0; w < most; w++) {
                addWire(n);
            }
        }
        for (int n = 0; n < 3; n++) {
            text(0);
        }
        for (int n = 0; n < 2; n++) {
            text(1);
        }
        for (int n = 0; n < 260 && !failed; n++) {
            step(most);
        }
    }

    private void addWire(int eye) {
        int cells = chance(50) ? 1 << pick(16) | 1 << pick(16) | 1 << pick(16) : lit();
        call("wire", eye, cells, chance(96) ? pick(3) : pick(6) - 1);
    }

    private void step(int most) {
        int what = pick(100);
        if (what < 16) {
            cards();
        } else if (what < 24) {
            text(pick(3));
        } else if (what < 44) {
            eyeCalls(most);
        } else if (what < 56) {
            turning();
        } else if (what < 66) {
            search();
        } else if (what < 70) {
            dear();
        } else if (what < 74) {
            state();
        } else {
            asking();
        }
    }

    private void cards() {
        switch (pick(8)) {
            case 0 -> call("away");
            case 1, 2 -> call("card", lit(), chance(50));
            case 3, 4 -> cardAsSaid();
            default -> call("made", lit(), rule());
        }
        if (chance(8)) {
            for (int n = pick(12); n >= 0; n--) {
                call("away");
            }
        }
    }

    /** A card on which an EYE is right already. */
    private void cardAsSaid() {
        int lit = lit() & 65535;
        int eye = chance(80) ? 0 : eye();
        if (call("sees", eye, lit) instanceof Integer sees && call("look", eye, 6) instanceof Integer line) {
            call("card", lit, sees > line);
        }
    }

    private void eyeCalls(int most) {
        int eye = eye();
        int wires = wires(eye);
        switch (pick(10)) {
            case 0 -> eyes = grown(eyes, chance(20) ? call("eye") : null);
            case 1 -> {
                if (chance(25) && (wires < most || wires == 6)) {
                    addWire(eye);
                }
            }
            case 2, 3, 4, 5 -> call("knob", eye, chance(30) ? -1 : about(wires),
                    chance(70) ? pick(9) - 4 : chance(50) ? pick(440) - 220 : pick(4400) - 2200);
            case 6 -> call("stuck", eye, chance(90) ? chance(60) ? 0 : pick(128) : pick(140) - 6,
                    chance(90) ? pick(5) : pick(60) - 4);
            case 7 -> call("sees", eye, lit());
            default -> call("look", eye, chance(95) ? pick(13) : pick(16) - 2);
        }
    }

    private void turning() {
        int eye = eye();
        switch (pick(4)) {
            case 0, 1 -> call("show", eye, about((Integer) call("count", 1)), turner());
            case 2 -> call("turned", eye, turner(), chance(95) ? 1 + pick(60) : pick(70) - 5);
            default -> call("soonest", eye, turner());
        }
        for (int what = 0; what < 9; what++) {
            call("look", eye, what);
        }
    }

    private void search() {
        int eye = eye();
        int k = k(wires(eye) > 4 ? 2 : 3);
        switch (pick(6)) {
            case 0 -> call("can", eye, k);
            case 1, 2 -> call("found", eye, k, chance(95) ? pick(8) : pick(12) - 2);
            case 3 -> call("bars", eye, k);
            default -> call("bound", eye, k);
        }
        if (chance(50)) {
            int readK = wires(eye) > 3 ? k(1) : k(2);
            call("read", eye, readK, false);
            call("read", eye, readK, true);
        }
    }

    private void dear() {
        switch (pick(4)) {
            case 0 -> call("blind", eye(), rule());
            case 1 -> call("mend", pick(16), rule());
            default -> call("odds", eye(), rule(), chance(95) ? pick(18) - 1 : pick(24) - 4);
        }
    }

    private void state() {
        switch (pick(5)) {
            case 0 -> call("image");
            case 1 -> {
                call("back");
                eyes = (Integer) call("count", 3);
                rules = (Integer) call("count", 0);
                turners = (Integer) call("count", 4);
            }
            case 2 -> call("count", pick(8));
            case 3 -> call("count", pick(12) - 2);
            default -> call("holds", about((Integer) call("count", 5)));
        }
    }

    private void asking() {
        int eye = eye();
        int cell = chance(95) ? pick(16) : pick(20) - 2;
        switch (pick(13)) {
            case 0 -> call("right", rule(), lit());
            case 1 -> call("blind", eye, -1);
            case 2 -> call("covered", eye, cell);
            case 3 -> call("goesBy", eye);
            case 4 -> call("along", cell);
            case 5 -> call("cloud");
            case 6 -> call("mend", cell, rule());
            case 7 -> call("bear", eye);
            case 8 -> call("swapped", eye, about(wires(eye)), about(wires(eye)));
            case 9 -> call("together", chance(95) ? 1 + pick(3) : pick(6) - 1, lit());
            case 10 -> call("layer");
            case 11 -> call("fault");
            default -> call("end", pick(30) - 3);
        }
    }
}
