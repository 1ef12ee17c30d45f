/** What the tests share: counting what is not as due, and laying texts on the TAPE. */
final class Check {
    interface Call {
        Object now();
    }

    private final String name;
    private int checks;
    private int wrong;

    Check(String name) {
        this.name = name;
    }

    void due(String what, Object got, Object want) {
        checks++;
        if (!want.equals(got)) {
            wrong++;
            System.out.println(name + ": " + what + " answered " + got + ", due is " + want);
        }
    }

    void fails(String what, Class<? extends RuntimeException> want, Call call) {
        checks++;
        Object got;
        try {
            got = call.now();
        } catch (RuntimeException e) {
            got = e.getClass();
        }
        if (got != want) {
            wrong++;
            System.out.println(name + ": " + what + " answered " + got + ", due is " + want);
        }
    }

    void index(String what, Call call) {
        fails(what, IndexOutOfBoundsException.class, call);
    }

    void argument(String what, Call call) {
        fails(what, IllegalArgumentException.class, call);
    }

    void unsupported(String what, Call call) {
        fails(what, UnsupportedOperationException.class, call);
    }

    void none(String what, Call call) {
        fails(what, java.util.NoSuchElementException.class, call);
    }

    void end() {
        System.out.println(name + ": " + checks + " checks, " + wrong + " wrong");
        if (wrong != 0 || checks == 0) {
            System.exit(1);
        }
    }

    /** Lays a text on the TAPE, behind what is there. */
    static void put(KnobEye x, String text) {
        int before = 0;
        for (int i = 0; i < text.length(); i += 20) {
            int[] five = new int[5];
            for (int j = 0; j < 20; j++) {
                five[j / 4] = five[j / 4] << 8 | (i + j < text.length() ? text.charAt(i + j) : 0);
            }
            before = x.feed(five[0], five[1], five[2], five[3], five[4]) - 20 - i;
        }
        x.end(before + text.length());
    }

    static int rule(KnobEye x, String text) {
        put(x, text);
        return x.rule();
    }

    static int turner(KnobEye x, String text) {
        put(x, text);
        return x.turner();
    }

    static int claim(KnobEye x, int eye, int rule, String text) {
        put(x, text);
        return x.claim(eye, rule);
    }
}
