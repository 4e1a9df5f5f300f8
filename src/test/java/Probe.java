import java.util.function.Supplier;

/** A ModuleLinker whose answers are texts (throws.X for an exception), and a count of those that are wrong. */
final class Probe {
    static final String ILLEGAL_STATE = "throws.IllegalStateException";
    static final String ILLEGAL_ARGUMENT = "throws.IllegalArgumentException";
    static final String NO_SUCH = "throws.NoSuchElementException";
    static final String UNSUPPORTED = "throws.UnsupportedOperationException";

    /** So many calls are promised for one object. */
    static final int CALLS = 512;

    private static int wrong = 0;
    private final String label;
    private final ModuleLinker linker;
    private int calls = 0;

    Probe(String label, int size) {
        this.label = label;
        this.linker = new ModuleLinker(size);
    }

    static void end() {
        System.out.println(wrong == 0 ? "all answers are as due" : wrong + " answers are not as due");
        if (wrong != 0) {
            System.exit(1);
        }
    }

    static void compare(String what, Object want, Object got) {
        if (!String.valueOf(want).equals(String.valueOf(got))) {
            wrong++;
            System.out.println(what + " answered " + got + ", due is " + want);
        }
    }

    int callsLeft() {
        return CALLS - calls;
    }

    /** The answer of one call, by the call's name and its arguments. */
    String answer(String name, int... a) {
        calls++;
        if (calls > CALLS) {
            throw new AssertionError(label + ": a test may not use an object for more calls");
        }
        switch (name) {
            case "put":
                return answerOf(() -> linker.put(a[0], a[1]));
            case "module":
                return answerOf(() -> linker.module());
            case "fault":
                return answerOf(() -> linker.fault());
            case "drop":
                return answerOf(() -> {
                    linker.drop(a[0]);
                    return "void";
                });
            case "link":
                return answerOf(() -> linker.link());
            case "unfit":
                return answerOf(() -> linker.unfit(a[0]));
            case "about":
                return answerOf(() -> linker.about(a[0], a[1], a[2]));
            case "call":
                return answerOf(() -> linker.call(a[0], a[1], a[2], a[3], a[4], a[5], a[6]));
            case "result":
                return answerOf(() -> linker.result(a[0]));
            case "took":
                return answerOf(() -> linker.took(a[0]));
            default:
                throw new AssertionError(name);
        }
    }

    private static String answerOf(Supplier<Object> call) {
        try {
            return String.valueOf(call.get());
        } catch (RuntimeException e) {
            return "throws." + e.getClass().getSimpleName();
        }
    }

    void due(Object want, String name, int... a) {
        compare(label + ": " + name + java.util.Arrays.toString(a), want, answer(name, a));
    }

    /** Calls a function that is told as A.a, with so much fuel; the words that are not told are 0. */
    void calls(Object want, String function, int fuel, int... words) {
        int[] w = java.util.Arrays.copyOf(words, 4);
        due(want, "call", function.charAt(0) - 'A', function.charAt(2) - 'a', w[0], w[1], w[2], w[3], fuel);
    }

    void about(Object want, String function, int what) {
        due(want, "about", function.charAt(0) - 'A', function.charAt(2) - 'a', what);
    }

    void results(int first, int second) {
        due(first, "result", 0);
        due(second, "result", 1);
    }

    void took(int most, int fuel) {
        due(most, "took", 0);
        due(fuel, "took", 1);
    }

    void unfit(int module, int item) {
        due(module, "unfit", 0);
        due(item, "unfit", 1);
    }

    /** Puts a text, four characters at a time. */
    void text(String text) {
        for (int i = 0; i < text.length(); i += 4) {
            int n = Math.min(4, text.length() - i);
            int word = 0;
            for (int k = 0; k < n; k++) {
                word = word << 8 | text.charAt(i + k);
            }
            due(true, "put", word, n);
        }
    }

    /** Gives modules that are accepted, and links them. */
    void links(int definitions, String... texts) {
        for (String text : texts) {
            accepts(text);
        }
        due(definitions, "link");
    }

    /** Each text is accepted by a new object. */
    static void acceptsAll(String label, String... texts) {
        for (String text : texts) {
            new Probe(label, 100).accepts(text);
        }
    }

    /** Each text is refused by a new object. */
    static void refusesAll(String label, int fault, String... texts) {
        for (String text : texts) {
            new Probe(label, 100).refuses(fault, text);
        }
    }

    void accepts(String text) {
        text(text);
        compare(label + ": module() of " + text, text.charAt(0) - 'A', answer("module"));
        compare(label + ": fault() of " + text, 0, answer("fault"));
    }

    void refuses(int fault, String text) {
        text(text);
        compare(label + ": module() of " + text, ILLEGAL_ARGUMENT, answer("module"));
        compare(label + ": fault() of " + text, fault, answer("fault"));
    }
}
