import java.io.IOException;
import java.nio.file.Files;
import java.nio.file.Path;

/** What the tests share: answers that are due, exceptions that are due, and texts for the TAPE. */
final class Check {
    private static final Path DOCUMENT = Path.of("..", "shared", "DOC.md");

    private static int wrong = 0;
    private static int asked = 0;
    private static String sentence = "";
    private static String document = null;

    private Check() {
    }

    /**
     * The sentence of the document that is tested from here on. That it stands there word for word
     * is looked at too, so that no test outlives the sentence for which it was written.
     */
    static void sentence(String words) {
        sentence = words;
        asked++;
        if (!document().isEmpty() && !document().contains(words)) {
            fail("the document has no such sentence");
        }
    }

    /** The document in one line; empty if it is not there. */
    static String document() {
        if (document == null) {
            document = "";
            try {
                document = Files.exists(DOCUMENT) ? Files.readString(DOCUMENT).replaceAll("\\s+", " ") : "";
            } catch (IOException e) {
                fail("the document cannot be read");
            }
        }
        return document;
    }

    private static void fail(String how) {
        wrong++;
        System.out.println(how + (sentence.isEmpty() ? "" : " [" + sentence + "]"));
    }

    static void due(String what, long got, long want) {
        asked++;
        if (got != want) {
            fail(what + " answered " + got + ", due is " + want);
        }
    }

    static void due(String what, boolean got, boolean want) {
        due(what, got ? 1 : 0, want ? 1 : 0);
    }

    static void due(String what, String got, String want) {
        asked++;
        if (!got.equals(want)) {
            fail(what + ": " + got + ", due is " + want);
        }
    }

    /** The very class is asked for: what the machine throws by itself is often a class below it. */
    static void dueThrow(String what, Class<? extends RuntimeException> want, Runnable call) {
        asked++;
        String got = "threw nothing";
        try {
            call.run();
        } catch (RuntimeException e) {
            if (e.getClass() == want) {
                return;
            }
            got = "threw " + e.getClass().getName();
        }
        fail(what + " " + got + ", due is " + want.getName());
    }

    static void dueIndex(String what, Runnable call) {
        dueThrow(what, IndexOutOfBoundsException.class, call);
    }

    static void dueIllegal(String what, Runnable call) {
        dueThrow(what, IllegalArgumentException.class, call);
    }

    static void dueUnsupported(String what, Runnable call) {
        dueThrow(what, UnsupportedOperationException.class, call);
    }

    static void dueNoElement(String what, Runnable call) {
        dueThrow(what, java.util.NoSuchElementException.class, call);
    }

    /** Puts a text of signs 0 to 255, in place of what was there, on the TAPE. */
    static void tape(PriceEdict x, String text) {
        x.end(0);
        for (int at = 0; at < text.length(); at += 20) {
            x.feed(word(text, at), word(text, at + 4), word(text, at + 8), word(text, at + 12), word(text, at + 16));
        }
        if (!x.end(text.length())) {
            throw new IllegalStateException("the text is too long for the TAPE");
        }
    }

    /** Four signs of a text as one number; 0 behind its end. */
    static int word(String text, int at) {
        int word = 0;
        for (int i = at; i < at + 4; i++) {
            word = word << 8 | (i < text.length() ? text.charAt(i) : 0);
        }
        return word;
    }

    /** Tells an EDICT by its text: its number. */
    static int edict(PriceEdict x, String text) {
        tape(x, text);
        return x.edict();
    }

    /** A text that is wrong, and its first wrong byte. */
    static void dueFault(PriceEdict x, String text, int want) {
        dueIllegal("edict of '" + text + "'", () -> edict(x, text));
        due("fault of '" + text + "'", x.fault(), want);
    }

    static void end() {
        System.out.println(asked + " answers, " + wrong + " not as due");
        if (wrong != 0 || asked == 0) {
            System.exit(1);
        }
    }
}
