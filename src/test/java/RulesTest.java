import java.io.IOException;
import java.lang.reflect.Field;
import java.lang.reflect.Method;
import java.lang.reflect.Modifier;
import java.nio.file.Files;
import java.nio.file.Path;
import java.util.ArrayList;
import java.util.HashMap;
import java.util.HashSet;
import java.util.List;
import java.util.Map;
import java.util.Set;
import java.util.TreeSet;
import java.util.regex.Matcher;
import java.util.regex.Pattern;

/** The rules of LANGUAGE.md that can be seen from the program's text and classes without reading its sense. */
public final class RulesTest {
    private static final Path PROGRAM = Path.of("src/main/java/ModuleLinker.java");
    private static final int LINES = 60;
    private static final int PARAMETERS = 7;
    private static final int CALLS_DEEP = 8;
    private static final int CLASSES = 12;
    private static final int FIELDS = 20;

    private static final Pattern CLASS = Pattern.compile("^ {0,4}(?:public|private).* class (\\w+).*\\{$");
    private static final Pattern HEAD = Pattern.compile(
            "^( {4}| {8})(?:public |private )(?:static )?(?:[\\w\\[\\]]+ )?(\\w+)\\(([^)]*)\\).*$");
    private static final Pattern CALLED = Pattern.compile("(\\.)?\\b(\\w+)\\(");

    /** A method or constructor as it stands in the program's text. */
    private static final class Part {
        final String home;
        final String name;
        final String parameters;
        final StringBuilder body = new StringBuilder();
        final Set<Part> calls = new HashSet<>();
        int lines = 1;

        Part(String home, String name, String parameters) {
            this.home = home;
            this.name = name;
            this.parameters = parameters;
        }
    }

    public static void main(String[] args) throws IOException {
        String text = withoutComments(Files.readString(PROGRAM));
        nothingElse(text);
        List<Part> parts = partsOf(text);
        // A pattern that finds no method would find no fault either.
        Probe.compare("methods that were found", declaredMethods(), namesOf(parts));
        findCalls(parts);
        fewLines(parts);
        noneMadeByCalls(parts);
        depthIsCarried(parts);
        notTooDeep(parts);
        classes();
        Probe.end();
    }

    private static String withoutComments(String text) {
        return text.replaceAll("(?s)/\\*.*?\\*/", "").replaceAll("//[^\n]*", "").replaceAll("'[^'\n]'", "'.'");
    }

    private static void nothingElse(String text) {
        String[] words = {"\\bpackage\\b", "\\bfinally\\b", "\\bsynchronized\\b", "\\bassert\\b", "->", "::",
            "\\bgetMessage\\b", "\\bhashCode\\b", "\\btoString\\b", "Exact\\(", "static \\{", "\\bprotected\\b",
            "\\bSystem\\.(?!arraycopy)", "\\bThread\\b",
            "import (?!java\\.util\\.NoSuchElementException;)"};
        for (String word : words) {
            Probe.compare("LANGUAGE.md: " + word + " in the program", false, Pattern.compile(word).matcher(text).find());
        }
    }

    private static List<Part> partsOf(String text) {
        List<Part> parts = new ArrayList<>();
        String home = "";
        Part open = null;
        String end = "";
        for (String line : text.split("\n")) {
            Matcher named = CLASS.matcher(line);
            Matcher head = HEAD.matcher(line);
            if (open != null) {
                open.lines++;
                open.body.append(line).append('\n');
                open = line.equals(end) ? null : open;
            } else if (named.matches()) {
                home = named.group(1);
            } else if (head.matches()) {
                open = new Part(home, head.group(2), head.group(3));
                end = head.group(1) + "}";
                parts.add(open);
            }
        }
        return parts;
    }

    private static Set<String> namesOf(List<Part> parts) {
        Set<String> names = new TreeSet<>();
        for (Part part : parts) {
            if (!part.name.equals(part.home)) {
                names.add(part.home + "." + part.name);
            }
        }
        return names;
    }

    private static Set<String> declaredMethods() {
        Set<String> names = new TreeSet<>();
        for (Class<?> one : allClasses()) {
            for (Method method : one.getDeclaredMethods()) {
                names.add(one.getSimpleName() + "." + method.getName());
            }
        }
        return names;
    }

    private static List<Class<?>> allClasses() {
        List<Class<?>> all = new ArrayList<>();
        all.add(ModuleLinker.class);
        all.addAll(List.of(ModuleLinker.class.getDeclaredClasses()));
        return all;
    }

    /** A name behind a point is a method of another class; another one is of this class or of the outermost. */
    private static void findCalls(List<Part> parts) {
        for (Part from : parts) {
            Matcher called = CALLED.matcher(from.body);
            while (called.find()) {
                boolean behindPoint = called.group(1) != null;
                for (Part to : parts) {
                    boolean here = to.home.equals(from.home);
                    boolean seen = behindPoint ? !here : here || to.home.equals("ModuleLinker") || to.name.equals(to.home);
                    if (seen && to.name.equals(called.group(2))) {
                        from.calls.add(to);
                    }
                }
            }
        }
    }

    private static void fewLines(List<Part> parts) {
        for (Part part : parts) {
            int parameters = part.parameters.isEmpty() ? 0 : part.parameters.split(",").length;
            String name = "LANGUAGE.md 11: " + part.home + "." + part.name;
            Probe.compare(name + " has so many parameters: " + parameters, true, parameters <= PARAMETERS);
            Probe.compare(name + " has so many lines: " + part.lines, true, part.lines <= LINES);
        }
    }

    private static void noneMadeByCalls(List<Part> parts) {
        Pattern made = Pattern.compile("(?<!throw )\\bnew\\b");
        for (Part part : parts) {
            boolean constructor = part.name.equals(part.home);
            Probe.compare("LANGUAGE.md 12, README.md: " + part.home + "." + part.name + " makes an object", false,
                    !constructor && made.matcher(part.body).find());
            Probe.compare("LANGUAGE.md 6: " + part.home + "." + part.name + " is a constructor that throws", false,
                    constructor && part.body.indexOf("throw ") >= 0);
        }
    }

    private static void depthIsCarried(List<Part> parts) {
        int recursive = 0;
        for (Part part : parts) {
            if (reached(part).contains(part)) {
                recursive++;
                Probe.compare("LANGUAGE.md 8: " + part.name + " carries the depth", true,
                        part.parameters.contains("int depth"));
            }
        }
        Probe.compare("methods that call one another were found", true, recursive > 0);
    }

    private static Set<Part> reached(Part from) {
        Set<Part> seen = new HashSet<>();
        List<Part> open = new ArrayList<>(from.calls);
        while (!open.isEmpty()) {
            Part next = open.remove(open.size() - 1);
            if (seen.add(next)) {
                open.addAll(next.calls);
            }
        }
        return seen;
    }

    private static void notTooDeep(List<Part> parts) {
        Map<Part, Integer> depths = new HashMap<>();
        for (Part part : parts) {
            int depth = depthOf(part, depths);
            Probe.compare("LANGUAGE.md 11: calls from " + part.home + "." + part.name + " go so deep: " + depth, true,
                    depth <= CALLS_DEEP);
        }
    }

    /** How many calls stand open at the most, this one counted; methods that call one another count as one. */
    private static int depthOf(Part part, Map<Part, Integer> known) {
        Integer before = known.get(part);
        if (before != null) {
            return before;
        }
        Set<Part> below = reached(part);
        Set<Part> ring = new HashSet<>(below);
        ring.removeIf(other -> !reached(other).contains(part));
        int deepest = 0;
        for (Part other : below) {
            if (!ring.contains(other) && other != part) {
                deepest = Math.max(deepest, depthOf(other, known));
            }
        }
        known.put(part, deepest + 1);
        return deepest + 1;
    }

    private static void classes() {
        List<Class<?>> all = allClasses();
        Probe.compare("LANGUAGE.md 11: so many classes: " + all.size(), true, all.size() <= CLASSES);
        Set<String> face = new HashSet<>();
        for (Method method : ModuleLinker.class.getDeclaredMethods()) {
            if (Modifier.isPublic(method.getModifiers())) {
                face.add(method.getName());
            }
        }
        for (Class<?> one : all) {
            String name = one.getSimpleName();
            Probe.compare("LANGUAGE.md 1: " + name + " is static", true, one == ModuleLinker.class
                    || Modifier.isStatic(one.getModifiers()) && !Modifier.isPublic(one.getModifiers()));
            int fields = 0;
            for (Field field : one.getDeclaredFields()) {
                int modifiers = field.getModifiers();
                fields += Modifier.isStatic(modifiers) ? 0 : 1;
                Probe.compare("LANGUAGE.md 5: " + name + "." + field.getName() + " is static and no constant", false,
                        Modifier.isStatic(modifiers) && !Modifier.isFinal(modifiers));
            }
            Probe.compare("LANGUAGE.md 11: " + name + " has so many fields: " + fields, true, fields <= FIELDS);
            for (Method method : one.getDeclaredMethods()) {
                Probe.compare("LANGUAGE.md 1: " + name + "." + method.getName() + " bears a name of the face", false,
                        !Modifier.isPublic(method.getModifiers()) && face.contains(method.getName()));
            }
        }
    }
}
