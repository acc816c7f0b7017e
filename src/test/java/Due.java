import java.io.IOException;
import java.nio.file.Files;
import java.nio.file.Path;
import java.util.function.IntSupplier;
import java.util.regex.Pattern;

/** What the tests share: a house that is told programs as texts, and answers held against what is due. */
final class Due {
    /** Each stands for an exception, far from any answer that a test expects otherwise. */
    static final int ARGUMENT = -1000001;
    static final int STATE = -1000002;
    static final int INDEX = -1000003;
    static final int UNSUPPORTED = -1000004;

    private static int wrong = 0;
    private static int asked = 0;
    private static String sentence = "";
    private static String document = "";

    private Due() {
    }

    /** What follows tests a sentence of the document, or a part of one, whose very words must stand there. */
    static void sentence(String words) {
        sentence = words;
        is("these words stand in the document", 1, document().contains(words) ? 1 : 0);
    }

    /** Whether the document has something of that form. */
    static boolean documentHas(String pattern) {
        return Pattern.compile(pattern).matcher(document()).find();
    }

    private static String document() {
        if (document.isEmpty()) {
            try {
                document = Files.readString(Path.of("../shared/DOC.md"));
            } catch (IOException e) {
                throw new IllegalStateException("run from the project's folder, beside ../shared", e);
            }
        }
        return document;
    }

    static void is(String what, int due, IntSupplier call) {
        int got = answer(call);
        asked++;
        if (got != due) {
            wrong++;
            if (!sentence.isEmpty()) {
                System.out.println("\"" + sentence + "\":");
            }
            System.out.println(what + ": answered " + name(got) + ", due is " + name(due));
        }
    }

    static void is(String what, int due, int got) {
        is(what, due, () -> got);
    }

    static int answer(IntSupplier call) {
        try {
            return call.getAsInt();
        } catch (RuntimeException e) {
            // The very class: a subclass is what the machine throws.
            if (e.getClass() == IllegalArgumentException.class) {
                return ARGUMENT;
            }
            if (e.getClass() == IllegalStateException.class) {
                return STATE;
            }
            if (e.getClass() == IndexOutOfBoundsException.class) {
                return INDEX;
            }
            if (e.getClass() == UnsupportedOperationException.class) {
                return UNSUPPORTED;
            }
            throw e;
        }
    }

    private static String name(int v) {
        switch (v) {
            case ARGUMENT: return "IllegalArgumentException";
            case STATE: return "IllegalStateException";
            case INDEX: return "IndexOutOfBoundsException";
            case UNSUPPORTED: return "UnsupportedOperationException";
            default: return Integer.toString(v);
        }
    }

    /** Ends a test: exit code 1 if an answer was wrong, or none was asked. */
    static void end() {
        System.out.println(wrong + " of " + asked + " answers are not as due");
        if (wrong != 0 || asked == 0) {
            System.exit(1);
        }
    }

    static AsOneHouse house(int way) {
        AsOneHouse house = new AsOneHouse();
        house.start(way);
        return house;
    }

    /** The text, and nothing else, comes to the tape. */
    static void type(AsOneHouse house, String text) {
        house.end(0);
        int[] words = new int[5];
        for (int from = 0; from < text.length(); from += 20) {
            for (int i = 0; i < 5; i++) {
                words[i] = 0;
                for (int j = 0; j < 4; j++) {
                    int at = from + 4 * i + j;
                    words[i] = words[i] << 8 | (at < text.length() ? text.charAt(at) & 255 : 0);
                }
            }
            house.feed(words[0], words[1], words[2], words[3], words[4]);
        }
        house.end(text.length());
    }

    static int tell(AsOneHouse house, int thread, String text) {
        type(house, text);
        return house.program(thread);
    }

    /** Turns of threads, one after another, each with the answer that is due: "0:0 1:4" and so on. */
    static void turns(AsOneHouse house, String what, String script) {
        int n = 0;
        for (String item : script.trim().split("\\s+")) {
            int thread = item.charAt(0) - '0';
            int due = item.charAt(2) - '0';
            n++;
            is(what + ", turn " + n + " of thread " + thread, due, () -> house.turn(thread));
        }
    }

    /** A text that may stand, told to a new house. */
    static void stands(String text, int statements) {
        AsOneHouse house = new AsOneHouse();
        is("'" + text + "'", statements, () -> tell(house, 0, text));
        is("place of '" + text + "'", -1, house::place);
        is("'" + text + "' is ready", 1, () -> house.look(0, 0));
    }

    /** A text that is broken at that place, told to a new house. */
    static void broken(String text, int place) {
        AsOneHouse house = new AsOneHouse();
        is("'" + text + "'", UNSUPPORTED, () -> tell(house, 0, text));
        is("place of '" + text + "'", place, house::place);
        is("'" + text + "' is no program", 0, () -> house.look(0, 0));
    }

    /** What look tells of a thread, from what 0 on, as many as are due. */
    static void looks(AsOneHouse house, int thread, String what, int... due) {
        for (int i = 0; i < due.length; i++) {
            int w = i;
            is(what + ": look " + thread + ", " + w, due[i], () -> house.look(thread, w));
        }
    }

    /** What record tells of a record, from what 0 on, as many as are due. */
    static void record(AsOneHouse house, int i, String what, int... due) {
        for (int k = 0; k < due.length; k++) {
            int w = k;
            is(what + ": record " + i + ", " + w, due[k], () -> house.record(i, w));
        }
    }

    /** The whole order, and nothing before or behind it. */
    static void order(AsOneHouse house, String what, int... due) {
        for (int i = 0; i < due.length; i++) {
            int at = i;
            is(what + ": order " + i, due[i], () -> house.order(at));
        }
        is(what + ": order ends", INDEX, () -> house.order(due.length));
        is(what + ": none at -1", INDEX, () -> house.order(-1));
    }
}
