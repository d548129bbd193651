/** What the tests share: answers that are due, exceptions that are due, and texts for the TAPE. */
final class Check {
    /** A call that may throw. */
    interface Call {
        long answer();
    }

    private static int wrong = 0;
    private static int asked = 0;

    private Check() {
    }

    static void due(String what, long got, long want) {
        asked++;
        if (got != want) {
            wrong++;
            System.out.println(what + " answered " + got + ", due is " + want);
        }
    }

    static void due(String what, boolean got, boolean want) {
        due(what, got ? 1 : 0, want ? 1 : 0);
    }

    /** The very class is asked for: what the machine throws by itself is often a class below it. */
    static void dueThrow(String what, Class<? extends RuntimeException> want, Call call) {
        asked++;
        String got;
        try {
            got = "answered " + call.answer();
        } catch (RuntimeException e) {
            if (e.getClass() == want) {
                return;
            }
            got = "threw " + e.getClass().getName();
        }
        wrong++;
        System.out.println(what + " " + got + ", due is " + want.getName());
    }

    static void dueIndex(String what, Call call) {
        dueThrow(what, IndexOutOfBoundsException.class, call);
    }

    static void dueIllegal(String what, Call call) {
        dueThrow(what, IllegalArgumentException.class, call);
    }

    static void dueUnsupported(String what, Call call) {
        dueThrow(what, UnsupportedOperationException.class, call);
    }

    static void dueNoElement(String what, Call call) {
        dueThrow(what, java.util.NoSuchElementException.class, call);
    }

    /** Puts a text of signs 0 to 255, in place of what was there, on the TAPE. */
    static void tape(PriceEdict x, String text) {
        x.end(0);
        for (int at = 0; at < text.length(); at += 20) {
            x.feed(word(text, at), word(text, at + 4), word(text, at + 8), word(text, at + 12), word(text, at + 16));
        }
        if (!x.end(text.length())) {
            throw new IllegalStateException("the text is too long for the TAPE");
        }
    }

    private static int word(String text, int at) {
        int word = 0;
        for (int i = at; i < at + 4; i++) {
            word = word << 8 | (i < text.length() ? text.charAt(i) : 0);
        }
        return word;
    }

    /** Tells an EDICT by its text: its number. */
    static int edict(PriceEdict x, String text) {
        tape(x, text);
        return x.edict();
    }

    /** A text that is wrong, and its first wrong byte. */
    static void dueFault(PriceEdict x, String text, int want) {
        dueIllegal("edict of '" + text + "'", () -> edict(x, text));
        due("fault of '" + text + "'", x.fault(), want);
    }

    static void end() {
        System.out.println(asked + " answers, " + wrong + " not as due");
        if (wrong != 0 || asked == 0) {
            System.exit(1);
        }
    }
}
