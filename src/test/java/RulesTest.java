import java.io.IOException;
import java.lang.reflect.Constructor;
import java.lang.reflect.Field;
import java.lang.reflect.Method;
import java.lang.reflect.Modifier;
import java.nio.file.Files;
import java.nio.file.Path;
import java.util.Map;
import java.util.Set;
import java.util.TreeMap;
import java.util.TreeSet;

/** The face of the class, and the words that ../shared/LANGUAGE.md rules out. */
public final class RulesTest {
    private static final Map<String, Integer> FACE = Map.ofEntries(
            Map.entry("putPanel", 0), Map.entry("redraw", 1), Map.entry("takeAway", 1), Map.entry("move", 3),
            Map.entry("moveScene", 2), Map.entry("time", 2), Map.entry("mend", 1), Map.entry("type", 1),
            Map.entry("clearText", 0), Map.entry("undo", 0), Map.entry("keep", 0), Map.entry("restore", 0),
            Map.entry("panel", 2), Map.entry("event", 3), Map.entry("at", 1), Map.entry("scene", 2),
            Map.entry("holder", 2), Map.entry("breakOf", 2), Map.entry("firstBreak", 2), Map.entry("ifMoved", 3),
            Map.entry("bestPlace", 2), Map.entry("count", 1));
    private static final Set<String> CONSTANTS =
            new TreeSet<>(Set.of("UNKNOWN", "BAD_VALUE", "FULL", "NOT_POSSIBLE", "NONE"));

    public static void main(String[] args) throws IOException {
        theFace();
        theWords(Files.readString(Path.of("src/main/java/StoryPanels.java")));
        Check.end("RulesTest");
    }

    private static void theFace() {
        Map<String, Integer> methods = new TreeMap<>();
        for (Method method : StoryPanels.class.getDeclaredMethods()) {
            int modifiers = method.getModifiers();
            if (Modifier.isPublic(modifiers)) {
                methods.put(method.getName(), method.getParameterCount());
                Check.dueText("the answer of " + method.getName(), method.getReturnType().getName(), "int");
            } else {
                Check.due(method.getName() + " is private", Modifier.isPrivate(modifiers) ? 1 : 0, 1);
                Check.due(method.getName() + " bears no public name", FACE.containsKey(method.getName()) ? 1 : 0, 0);
            }
        }
        Check.dueText("the methods", methods.toString(), new TreeMap<>(FACE).toString());
        Set<String> fields = new TreeSet<>();
        for (Field field : StoryPanels.class.getDeclaredFields()) {
            if (!Modifier.isPrivate(field.getModifiers())) {
                fields.add(field.getName());
            }
        }
        Check.dueText("the constants", fields.toString(), CONSTANTS.toString());
        Constructor<?>[] made = StoryPanels.class.getDeclaredConstructors();
        Check.due("constructors", made.length, 1);
        Check.due("its parameters", made[0].getParameterCount(), 0);
        Check.due("the class is public and final",
                StoryPanels.class.getModifiers() & (Modifier.PUBLIC | Modifier.FINAL),
                Modifier.PUBLIC | Modifier.FINAL);
        for (Class<?> inside : StoryPanels.class.getDeclaredClasses()) {
            Check.due(inside.getName() + " is static", Modifier.isStatic(inside.getModifiers()) ? 1 : 0, 1);
            for (Method method : inside.getDeclaredMethods()) {
                Check.due(method + " bears no public name", FACE.containsKey(method.getName()) ? 1 : 0, 0);
            }
        }
    }

    private static void theWords(String source) {
        for (int index = 0; index < source.length(); index++) {
            if (source.charAt(index) > 126) {
                Check.due("the sign at " + index, source.charAt(index), '?');
            }
        }
        String code = source.replaceAll("//[^\n]*", "").replaceAll("(?s)/\\*.*?\\*/", "");
        String[] ruledOut = {"throw", "throws", "try", "catch", "synchronized", "assert", "import", "package",
            "protected", "instanceof", "Object", "System", "Thread", "Random"};
        for (String word : ruledOut) {
            boolean there = code.matches("(?s).*\\b" + word + "\\b.*");
            Check.due("the word " + word, there ? 1 : 0, 0);
        }
        for (String sign : new String[] {"->", "::", "static {", "\""}) {
            Check.due("the sign " + sign, code.contains(sign) ? 1 : 0, 0);
        }
    }
}
