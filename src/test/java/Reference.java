import java.util.ArrayList;
import java.util.HashMap;
import java.util.List;
import java.util.Map;
import java.util.NoSuchElementException;
import java.util.TreeMap;
import java.util.regex.Matcher;
import java.util.regex.Pattern;

/** The document once more, by trees and recursion and without a thought of speed, to compare with. */
final class Reference {
    private static final Pattern IMPORT = Pattern.compile("\\?([A-F])\\.([a-z])(\\([IP]{0,3}\\)[IP])");
    private static final Pattern DEFINITION = Pattern.compile("(\\+?)([a-z])(\\([IP]{0,3}\\)[IP])=(.*)");

    private static final class NoText extends RuntimeException {
        private static final long serialVersionUID = 1;
    }

    private static final class NoType extends RuntimeException {
        private static final long serialVersionUID = 1;
    }

    private static final class Over extends RuntimeException {
        private static final long serialVersionUID = 1;
        final int why;

        Over(int why) {
            this.why = why;
        }
    }

    /** kind: # number, $ parameter, + - *, { pair, [ choice, 0 and 1 of a pair, c call. */
    private static final class Node {
        final char kind;
        final int number;
        final String name;
        final List<Node> parts = new ArrayList<>();

        Node(char kind, int number, String name, Node... parts) {
            this.kind = kind;
            this.number = number;
            this.name = name;
            this.parts.addAll(List.of(parts));
        }
    }

    private static final class Definition {
        boolean exported;
        String signature;
        Node body;
        int room;
        Mod home;
    }

    private static final class Mod {
        char name;
        final List<String> itemNames = new ArrayList<>();
        final Map<String, String> signatures = new HashMap<>();
        final Map<String, Definition> definitions = new HashMap<>();
    }

    private final int size;
    private final StringBuilder buffer = new StringBuilder();
    private final TreeMap<Character, Mod> mods = new TreeMap<>();
    private int fault = 0;
    private boolean linked = false;
    private int[] unfit = {-1, -1};
    private int[] result = {0, 0};
    private int most = 0;
    private int spent = 0;
    private int fuel = 0;
    private int height = 0;

    Reference(int size) {
        this.size = size < 8 ? 8 : size > 500 ? 500 : size;
    }

    boolean put(int word, int n) {
        if (n < 1 || n > 4) {
            return false;
        }
        StringBuilder more = new StringBuilder();
        for (int k = n; k >= 1; k--) {
            int c = (int) (((word & 0xffffffffL) >> 8 * (k - 1)) % 256);
            if (c < 32 || c > 126) {
                return false;
            }
            more.append((char) c);
        }
        if (buffer.length() + n > 120) {
            return false;
        }
        buffer.append(more);
        return true;
    }

    int module() {
        String text = buffer.toString();
        buffer.setLength(0);
        try {
            Mod mod = read(text);
            for (Definition d : mod.definitions.values()) {
                if (typeOf(d.body, mod, d) != resultOf(d.signature)) {
                    throw new NoType();
                }
                d.room = roomOf(d.body, mod);
            }
            fault = 0;
            linked = false;
            mods.put(mod.name, mod);
            return mod.name - 'A';
        } catch (NoText e) {
            fault = 1;
        } catch (NoType e) {
            fault = 2;
        }
        throw new IllegalArgumentException();
    }

    int fault() {
        return fault;
    }

    void drop(int m) {
        if (modOf(m) == null) {
            throw new NoSuchElementException();
        }
        mods.remove((char) ('A' + m));
        linked = false;
    }

    int link() {
        if (mods.isEmpty()) {
            throw new IllegalStateException();
        }
        unfit = new int[] {-1, -1};
        int count = 0;
        for (Mod mod : mods.values()) {
            for (int i = 0; i < mod.itemNames.size(); i++) {
                String name = mod.itemNames.get(i);
                if (name.length() == 1) {
                    count++;
                } else if (!fits(name, mod.signatures.get(name))) {
                    unfit = new int[] {mod.name - 'A', i};
                    linked = false;
                    throw new UnsupportedOperationException();
                }
            }
        }
        linked = true;
        return count;
    }

    private boolean fits(String name, String signature) {
        Mod mod = mods.get(name.charAt(0));
        Definition d = mod == null ? null : mod.definitions.get(name.substring(2));
        return d != null && d.exported && d.signature.equals(signature);
    }

    int unfit(int what) {
        return what == 0 || what == 1 ? unfit[what] : -1;
    }

    int about(int m, int f, int what) {
        Definition d = definitionOf(m, f);
        if (d == null || what < 0 || what > 3) {
            throw new NoSuchElementException();
        }
        int[] answers = {d.room, d.exported ? 1 : 0, wordsOf(parametersOf(d.signature)), words(resultOf(d.signature))};
        return answers[what];
    }

    int call(int m, int f, int[] given, int fuelGiven) {
        if (!linked) {
            throw new IllegalStateException();
        }
        Definition d = definitionOf(m, f);
        if (d == null || !d.exported) {
            throw new NoSuchElementException();
        }
        String parameters = parametersOf(d.signature);
        if (wordsOf(parameters) > 4) {
            throw new IllegalArgumentException();
        }
        List<int[]> arguments = new ArrayList<>();
        int next = 0;
        for (char type : parameters.toCharArray()) {
            arguments.add(type == 'I' ? new int[] {given[next]} : new int[] {given[next], given[next + 1]});
            next += words(type);
        }
        fuel = fuelGiven < 0 ? 0 : fuelGiven > 3000 ? 3000 : fuelGiven;
        height = next;
        most = 0;
        spent = 0;
        result = new int[] {0, 0};
        try {
            int[] value = enter(d, arguments);
            System.arraycopy(value, 0, result, 0, value.length);
            return 0;
        } catch (Over e) {
            return e.why;
        }
    }

    int result(int k) {
        return k == 0 || k == 1 ? result[k] : 0;
    }

    int took(int what) {
        return what == 0 ? most : what == 1 ? spent : -1;
    }

    private Mod modOf(int m) {
        return m < 0 || m > 5 ? null : mods.get((char) ('A' + m));
    }

    private Definition definitionOf(int m, int f) {
        Mod mod = modOf(m);
        return mod == null || f < 0 || f > 25 ? null : mod.definitions.get("" + (char) ('a' + f));
    }

    private static String parametersOf(String signature) {
        return signature.substring(1, signature.indexOf(')'));
    }

    private static char resultOf(String signature) {
        return signature.charAt(signature.length() - 1);
    }

    private static int words(char type) {
        return type == 'I' ? 1 : 2;
    }

    private static int wordsOf(String types) {
        int sum = 0;
        for (char type : types.toCharArray()) {
            sum += words(type);
        }
        return sum;
    }

    // The text.

    private String rest;

    private Mod read(String text) {
        String[] pieces = text.split(";", -1);
        if (pieces.length < 2 || pieces.length > 7 || !pieces[0].matches("[A-F]")) {
            throw new NoText();
        }
        Mod mod = new Mod();
        mod.name = pieces[0].charAt(0);
        for (int i = 1; i < pieces.length; i++) {
            readItem(mod, pieces[i]);
        }
        return mod;
    }

    private void readItem(Mod mod, String piece) {
        Matcher imported = IMPORT.matcher(piece);
        Matcher defined = DEFINITION.matcher(piece);
        String name;
        if (imported.matches()) {
            name = imported.group(1) + "." + imported.group(2);
            if (mod.signatures.put(name, imported.group(3)) != null) {
                throw new NoText();
            }
        } else if (defined.matches()) {
            name = defined.group(2);
            Definition d = new Definition();
            d.exported = !defined.group(1).isEmpty();
            d.signature = defined.group(3);
            d.home = mod;
            rest = defined.group(4);
            d.body = readSum(0);
            if (!rest.isEmpty() || mod.signatures.put(name, d.signature) != null) {
                throw new NoText();
            }
            mod.definitions.put(name, d);
        } else {
            throw new NoText();
        }
        mod.itemNames.add(name);
    }

    private boolean eat(String start) {
        if (!rest.startsWith(start)) {
            return false;
        }
        rest = rest.substring(start.length());
        return true;
    }

    private void must(String start) {
        if (!eat(start)) {
            throw new NoText();
        }
    }

    private Node readSum(int around) {
        Node sum = readProduct(around);
        while (rest.startsWith("+") || rest.startsWith("-")) {
            char kind = rest.charAt(0);
            rest = rest.substring(1);
            sum = new Node(kind, 0, "", sum, readProduct(around));
        }
        return sum;
    }

    private Node readProduct(int around) {
        Node product = readFactor(around);
        while (eat("*")) {
            product = new Node('*', 0, "", product, readFactor(around));
        }
        return product;
    }

    private Node readFactor(int around) {
        Node factor = readPlain(around);
        if (eat(".0")) {
            return new Node('0', 0, "", factor);
        }
        return eat(".1") ? new Node('1', 0, "", factor) : factor;
    }

    private Node readPlain(int around) {
        Matcher number = Pattern.compile("([0-9]{1,4})(.*)").matcher(rest);
        Matcher parameter = Pattern.compile("\\$([1-3])(.*)").matcher(rest);
        Matcher called = Pattern.compile("((?:[A-F]\\.)?[a-z])\\((.*)").matcher(rest);
        if (number.matches()) {
            rest = number.group(2);
            return new Node('#', Integer.parseInt(number.group(1)), "");
        }
        if (parameter.matches()) {
            rest = parameter.group(2);
            return new Node('$', Integer.parseInt(parameter.group(1)), "");
        }
        if (around + 1 > 8) {
            throw new NoText();
        }
        if (called.matches()) {
            rest = called.group(2);
            return readCalled(called.group(1), around + 1);
        }
        return readBracket(around + 1);
    }

    private Node readCalled(String name, int around) {
        Node node = new Node('c', 0, name);
        if (eat(")")) {
            return node;
        }
        do {
            node.parts.add(readSum(around));
        } while (eat(","));
        must(")");
        return node;
    }

    private Node readBracket(int around) {
        if (eat("(")) {
            Node inner = readSum(around);
            must(")");
            return inner;
        }
        if (eat("{")) {
            Node first = readSum(around);
            must(",");
            Node second = readSum(around);
            must("}");
            return new Node('{', 0, "", first, second);
        }
        must("[");
        Node test = readSum(around);
        must("?");
        Node yes = readSum(around);
        must(":");
        Node no = readSum(around);
        must("]");
        return new Node('[', 0, "", test, yes, no);
    }

    // Types, room and values of trees.

    private static void mustBe(boolean right) {
        if (!right) {
            throw new NoType();
        }
    }

    private static char typeOf(Node node, Mod mod, Definition within) {
        StringBuilder types = new StringBuilder();
        for (Node part : node.parts) {
            types.append(typeOf(part, mod, within));
        }
        String parts = types.toString();
        switch (node.kind) {
            case '#':
                return 'I';
            case '$':
                String parameters = parametersOf(within.signature);
                mustBe(node.number <= parameters.length());
                return parameters.charAt(node.number - 1);
            case 'c':
                String signature = mod.signatures.get(node.name);
                mustBe(signature != null && parametersOf(signature).equals(parts));
                return resultOf(signature);
            case '[':
                mustBe(parts.equals("III") || parts.equals("IPP"));
                return parts.charAt(1);
            case '0':
            case '1':
                mustBe(parts.equals("P"));
                return 'I';
            default:
                mustBe(parts.equals("II"));
                return node.kind == '{' ? 'P' : 'I';
        }
    }

    private static int roomOf(Node node, Mod mod) {
        int room = 0;
        int put = 0;
        for (int i = 0; i < node.parts.size(); i++) {
            room = Math.max(room, put + roomOf(node.parts.get(i), mod));
            if (node.kind == 'c') {
                put += words(parametersOf(mod.signatures.get(node.name)).charAt(i));
            } else if ("+-*{".indexOf(node.kind) >= 0 && i == 0) {
                put++;
            }
            room = Math.max(room, put);
        }
        return room;
    }

    private int[] enter(Definition d, List<int[]> arguments) {
        if (spent >= fuel) {
            throw new Over(2);
        }
        spent++;
        height += 2;
        if (height + d.room > size) {
            throw new Over(1);
        }
        most = Math.max(most, height + d.room);
        int[] value = valueOf(d.body, d.home, arguments);
        height -= 2;
        return value;
    }

    private int[] valueOf(Node node, Mod mod, List<int[]> arguments) {
        switch (node.kind) {
            case '#':
                return new int[] {node.number};
            case '$':
                return arguments.get(node.number - 1);
            case '0':
            case '1':
                return new int[] {valueOf(node.parts.get(0), mod, arguments)[node.kind - '0']};
            case '[':
                boolean yes = valueOf(node.parts.get(0), mod, arguments)[0] != 0;
                return valueOf(node.parts.get(yes ? 1 : 2), mod, arguments);
            case 'c':
                return valueOfCall(node, mod, arguments);
            default:
                return valueOfTwo(node, mod, arguments);
        }
    }

    private int[] valueOfCall(Node node, Mod mod, List<int[]> arguments) {
        List<int[]> passed = new ArrayList<>();
        int before = height;
        for (Node part : node.parts) {
            int[] value = valueOf(part, mod, arguments);
            passed.add(value);
            height += value.length;
        }
        Mod home = node.name.length() == 1 ? mod : mods.get(node.name.charAt(0));
        int[] value = enter(home.definitions.get(node.name.substring(node.name.length() - 1)), passed);
        height = before;
        return value;
    }

    private int[] valueOfTwo(Node node, Mod mod, List<int[]> arguments) {
        int first = valueOf(node.parts.get(0), mod, arguments)[0];
        height++;
        int second = valueOf(node.parts.get(1), mod, arguments)[0];
        height--;
        switch (node.kind) {
            case '+':
                return new int[] {first + second};
            case '-':
                return new int[] {first - second};
            case '*':
                return new int[] {first * second};
            default:
                return new int[] {first, second};
        }
    }
}
