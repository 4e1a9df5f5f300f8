import java.lang.reflect.Constructor;
import java.lang.reflect.Field;
import java.lang.reflect.Method;
import java.lang.reflect.Modifier;
import java.util.Set;
import java.util.TreeSet;

/** The class shows the document's face and nothing else. */
public final class FaceTest {
    private static final Set<String> FACE = Set.of(
            "public static final int ModuleLinker.NONE",
            "public ModuleLinker(int)",
            "public boolean ModuleLinker.put(int,int)",
            "public int ModuleLinker.module() throws java.lang.IllegalArgumentException",
            "public int ModuleLinker.fault()",
            "public void ModuleLinker.drop(int) throws java.util.NoSuchElementException",
            "public int ModuleLinker.link() throws java.lang.IllegalStateException,"
                    + "java.lang.UnsupportedOperationException",
            "public int ModuleLinker.unfit(int)",
            "public int ModuleLinker.about(int,int,int) throws java.util.NoSuchElementException",
            "public int ModuleLinker.call(int,int,int,int,int,int,int) throws java.lang.IllegalStateException,"
                    + "java.util.NoSuchElementException,java.lang.IllegalArgumentException",
            "public int ModuleLinker.result(int)",
            "public int ModuleLinker.took(int)");

    public static void main(String[] args) {
        Set<String> seen = new TreeSet<>();
        for (Field field : ModuleLinker.class.getDeclaredFields()) {
            note(seen, field.getModifiers(), field.toString());
        }
        for (Constructor<?> constructor : ModuleLinker.class.getDeclaredConstructors()) {
            note(seen, constructor.getModifiers(), constructor.toString());
        }
        for (Method method : ModuleLinker.class.getDeclaredMethods()) {
            note(seen, method.getModifiers(), method.toString());
        }
        Probe.compare("the face", new TreeSet<>(FACE), seen);
        Probe.compare("the class", "public final", Modifier.toString(ModuleLinker.class.getModifiers()));
        Probe.end();
    }

    private static void note(Set<String> seen, int modifiers, String member) {
        if (!Modifier.isPrivate(modifiers)) {
            seen.add(member);
        }
    }
}
