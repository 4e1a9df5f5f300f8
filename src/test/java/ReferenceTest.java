import java.util.ArrayList;
import java.util.Arrays;
import java.util.List;
import java.util.Random;

/** Made-up runs of calls, the same ones each time, on the program and on the reference side by side. */
public final class ReferenceTest {
    private static final int RUNS = 3000;
    private static final String STRAY = "ABCFGabcz01239$(){}[]?:;,.+-*= IP~";

    private final Random random;
    private final int size;
    private final Probe probe;
    private final Reference reference;
    private final String label;
    private int calls = 0;
    private static int accepted = 0;
    private static int textFaults = 0;
    private static int typeFaults = 0;
    private static int links = 0;
    private static final int[] OUTCOMES = new int[3];

    private ReferenceTest(int run) {
        random = new Random(run);
        size = random.nextInt(4) == 0 ? random.nextInt(12) : random.nextInt(520);
        label = "run " + run;
        probe = new Probe(label, size);
        reference = new Reference(size);
    }

    public static void main(String[] args) throws InterruptedException {
        // The reference calls itself as deep as the stack of the language goes.
        Thread thread = new Thread(null, () -> {
            for (int run = 0; run < RUNS; run++) {
                new ReferenceTest(run).play();
            }
        }, "runs", 1L << 28);
        thread.start();
        thread.join();
        System.out.println("accepted " + accepted + ", text faults " + textFaults + ", type faults " + typeFaults
                + ", links " + links + ", calls that gave 0, 1, 2: " + Arrays.toString(OUTCOMES));
        // A run in which nothing happens would compare nothing.
        for (int seen : new int[] {accepted, textFaults, typeFaults, links, OUTCOMES[0], OUTCOMES[1], OUTCOMES[2]}) {
            Probe.compare("often enough", true, seen > 500);
        }
        Probe.end();
    }

    private void play() {
        while (probe.callsLeft() > 60) {
            int what = random.nextInt(20);
            if (what < 4) {
                giveModule();
            } else if (what < 8) {
                linkAndCall();
            } else if (what == 8) {
                same("drop", random.nextInt(8) - 1);
            } else if (what == 9) {
                strange();
            } else if (what < 12) {
                same("about", random.nextInt(7), random.nextInt(5), random.nextInt(5));
            } else {
                callSome();
            }
        }
    }

    private void linkAndCall() {
        boolean fit = same("link").matches("\\d+");
        same("unfit", 0);
        same("unfit", 1);
        if (fit) {
            links++;
            for (int i = 0; i < 6 && probe.callsLeft() > 60; i++) {
                callSome();
            }
        }
    }

    private void callSome() {
        String answer = same("call", random.nextInt(4), random.nextInt(4), argument(), argument(), argument(),
                argument(), random.nextInt(3) == 0 ? random.nextInt(12) : random.nextInt(3200) - 50);
        if (answer.matches("[012]")) {
            OUTCOMES[Integer.parseInt(answer)]++;
        }
        same("result", 0);
        same("result", 1);
        same("took", 0);
        same("took", 1);
    }

    private int argument() {
        return random.nextInt(8) == 0 ? random.nextInt() : random.nextInt(12);
    }

    private void strange() {
        int[] odd = {Integer.MIN_VALUE, -1, 0, 1, 2, 5, 6, 25, 26, Integer.MAX_VALUE};
        int[] a = new int[7];
        for (int i = 0; i < a.length; i++) {
            a[i] = odd[random.nextInt(odd.length)];
        }
        String[] names = {"put", "module", "drop", "unfit", "about", "call", "result", "took"};
        same(names[random.nextInt(names.length)], a);
    }

    private String same(String name, int... a) {
        calls++;
        String want = wanted(name, a);
        Probe.compare(label + ", call " + calls + ", size " + size + ": " + name + Arrays.toString(a), want,
                probe.answer(name, a));
        return want;
    }

    private String wanted(String name, int... a) {
        try {
            switch (name) {
                case "put":
                    return String.valueOf(reference.put(a[0], a[1]));
                case "module":
                    return String.valueOf(reference.module());
                case "fault":
                    return String.valueOf(reference.fault());
                case "drop":
                    reference.drop(a[0]);
                    return "void";
                case "link":
                    return String.valueOf(reference.link());
                case "unfit":
                    return String.valueOf(reference.unfit(a[0]));
                case "about":
                    return String.valueOf(reference.about(a[0], a[1], a[2]));
                case "call":
                    return String.valueOf(reference.call(a[0], a[1], Arrays.copyOfRange(a, 2, 6), a[6]));
                case "result":
                    return String.valueOf(reference.result(a[0]));
                default:
                    return String.valueOf(reference.took(a[0]));
            }
        } catch (RuntimeException e) {
            return "throws." + e.getClass().getSimpleName();
        }
    }

    private void giveModule() {
        String text = madeUp();
        if (random.nextInt(4) == 0) {
            int at = random.nextInt(text.length());
            int to = Math.min(text.length(), at + random.nextInt(3));
            String stray = String.valueOf(STRAY.charAt(random.nextInt(STRAY.length())));
            text = text.substring(0, at) + (random.nextInt(4) == 0 ? "" : stray) + text.substring(to);
        }
        for (int i = 0; i < text.length(); i += 4) {
            int n = Math.min(4, text.length() - i);
            int word = random.nextInt();
            for (int k = 0; k < n; k++) {
                word = word << 8 | text.charAt(i + k);
            }
            same("put", word, n);
        }
        boolean taken = same("module").matches("\\d");
        String fault = same("fault");
        accepted += taken ? 1 : 0;
        textFaults += fault.equals("1") ? 1 : 0;
        typeFaults += fault.equals("2") ? 1 : 0;
    }

    // Modules A .. C with functions a .. d, whose signatures are few, so that imports often fit.

    private static final String[] SIGNATURES = {"()I", "(I)I", "(P)P", "(IP)I", "(II)I", "(I)P", "(PP)I", "(PPI)I"};
    private List<String> callable;
    private String parameters;

    private String signatureOf(char name) {
        int usual = (name - 'a') * 2 + 1;
        return SIGNATURES[random.nextInt(12) == 0 ? random.nextInt(SIGNATURES.length) : usual % SIGNATURES.length];
    }

    private String madeUp() {
        int items = 1 + random.nextInt(5);
        List<String> heads = new ArrayList<>();
        callable = new ArrayList<>();
        for (int i = 0; i < items; i++) {
            char name = (char) ('a' + random.nextInt(4));
            String head = (random.nextInt(5) == 0 ? (char) ('A' + random.nextInt(3)) + "." : "") + name;
            if (callable.stream().noneMatch(c -> c.startsWith(head + "(")) || random.nextInt(60) == 0) {
                callable.add(head + signatureOf(name));
            }
        }
        StringBuilder text = new StringBuilder().append((char) ('A' + random.nextInt(3)));
        int share = 112 / callable.size();
        for (String one : callable) {
            text.append(';').append(item(one, share));
        }
        return text.length() <= 124 ? text.toString() : text.substring(0, 124);
    }

    private String item(String one, int share) {
        if (one.charAt(1) == '.') {
            return "?" + one;
        }
        parameters = one.substring(2, one.indexOf(')'));
        char type = one.charAt(one.length() - 1);
        String body;
        int tries = 0;
        do {
            body = random.nextInt(3) == 0 ? falling(type) : expression(type, 5 - tries / 4);
            tries++;
        } while (body.length() > share - one.length() - 3 && tries < 20);
        return (random.nextInt(5) == 0 ? "" : "+") + one + "=" + body;
    }

    /** A choice on the first parameter, so that a run that calls itself often comes to its end. */
    private String falling(char type) {
        if (!parameters.startsWith("I")) {
            return expression(type, 3);
        }
        return "[$1?" + expression(type, 3) + ":" + expression(type, 1) + "]";
    }

    private String expression(char type, int depth) {
        if (random.nextInt(150) == 0) {
            return expression(type == 'I' ? 'P' : 'I', depth);
        }
        int what = depth <= 0 ? 0 : random.nextInt(9);
        if (what == 8) {
            return "[" + expression('I', depth - 1) + "?" + expression(type, depth - 1) + ":"
                    + expression(type, depth - 1) + "]";
        }
        if (what >= 5) {
            return called(type, depth);
        }
        if (type == 'P') {
            return what < 2 && parameters.indexOf('P') >= 0 ? "$" + (1 + parameters.indexOf('P'))
                    : "{" + expression('I', depth - 1) + "," + expression('I', depth - 1) + "}";
        }
        if (what >= 2) {
            char operator = "+-*".charAt(random.nextInt(3));
            String second = expression('I', depth - 1);
            return expression('I', depth - 1) + operator + (random.nextInt(3) == 0 ? "(" + second + ")" : second);
        }
        return what == 1 && depth > 1 ? expression('P', 1) + "." + random.nextInt(2) : leaf();
    }

    private String leaf() {
        if (!parameters.isEmpty() && random.nextInt(3) > 0) {
            int k = random.nextInt(parameters.length());
            return "$" + (1 + k) + (parameters.charAt(k) == 'P' ? "." + random.nextInt(2) : "");
        }
        return String.valueOf(random.nextInt(random.nextInt(5) == 0 ? 10000 : 10));
    }

    private String called(char type, int depth) {
        String one = callable.get(random.nextInt(callable.size()));
        if (one.charAt(one.length() - 1) != type) {
            return expression(type, depth - 1);
        }
        int open = one.indexOf('(');
        StringBuilder text = new StringBuilder(one.substring(0, open + 1));
        for (int i = open + 1; one.charAt(i) != ')'; i++) {
            text.append(i > open + 1 ? "," : "");
            text.append(i == open + 1 && one.charAt(i) == 'I' && parameters.startsWith("I") && random.nextInt(3) > 0
                    ? "$1-1" : expression(one.charAt(i), depth - 2));
        }
        return text.append(')').toString();
    }
}
