/** Compares answers with those that are due, prints each that differs, and ends with 1 if there was one. */
final class Due {
    private final String name;
    private int wrong;
    private int compared;

    Due(String name) {
        this.name = name;
    }

    void is(String call, long got, long want) {
        compared++;
        if (got != want) {
            wrong++;
            System.out.println(name + ": " + call + " answered " + got + ", due is " + want);
        }
    }

    void is(String call, boolean got, boolean want) {
        is(call, got ? 1 : 0, want ? 1 : 0);
    }

    void fails(String what) {
        is(what, 1, 0);
    }

    void close() {
        System.out.println(name + ": " + (compared - wrong) + " of " + compared + " are as due");
        if (wrong != 0 || compared == 0) {
            System.exit(1);
        }
    }

    /** Puts a text on the TAPE, behind what is there. */
    static void feed(HillLeavers x, String text) {
        int before = x.about(12);
        for (int at = 0; at < text.length(); at += 20) {
            x.feed(four(text, at), four(text, at + 4), four(text, at + 8), four(text, at + 12), four(text, at + 16));
        }
        x.end(before + text.length());
    }

    static int city(HillLeavers x, String text) {
        feed(x, text);
        return x.city();
    }

    static HillLeavers with(String text) {
        HillLeavers x = new HillLeavers();
        if (city(x, text) < 0) {
            throw new IllegalStateException("fault " + x.fault(0) + " at " + x.fault(1) + " of " + text);
        }
        return x;
    }

    private static int four(String text, int at) {
        int four = 0;
        for (int i = at; i < at + 4; i++) {
            four = four << 8 | (i < text.length() ? text.charAt(i) & 255 : ' ');
        }
        return four;
    }
}
