import java.io.IOException;
import java.lang.reflect.Constructor;
import java.lang.reflect.Field;
import java.lang.reflect.Method;
import java.lang.reflect.Modifier;
import java.nio.file.Files;
import java.nio.file.Path;
import java.util.Arrays;
import java.util.Map;
import java.util.TreeMap;
import java.util.TreeSet;
import java.util.regex.Pattern;

/** The face of the class, and what ../shared/LANGUAGE.md rules out and can be seen from outside. */
public final class RulesTest {
    /** Each method with the types of its parameters, i for int and c for char. */
    private static final Map<String, String> FACE = Map.ofEntries(
            Map.entry("putPanel", ""), Map.entry("redraw", "i"), Map.entry("takeAway", "i"), Map.entry("move", "iii"),
            Map.entry("moveScene", "ii"), Map.entry("time", "ii"), Map.entry("mend", "i"), Map.entry("type", "c"),
            Map.entry("clearText", ""), Map.entry("undo", ""), Map.entry("keep", ""), Map.entry("restore", ""),
            Map.entry("panel", "ii"), Map.entry("event", "iii"), Map.entry("at", "i"), Map.entry("scene", "ii"),
            Map.entry("holder", "ii"), Map.entry("breakOf", "ii"), Map.entry("firstBreak", "ii"),
            Map.entry("ifMoved", "iii"), Map.entry("bestPlace", "ii"), Map.entry("count", "i"));

    public static void main(String[] args) throws IOException {
        theFace();
        theClassesInside();
        theFields();
        theWords(Files.readString(Path.of("src/main/java/StoryPanels.java")));
        Check.end("RulesTest");
    }

    private static void holds(String what, boolean holds) {
        Check.due(what, holds ? 1 : 0, 1);
    }

    private static void theFace() {
        Check.sentence("LANGUAGE.md, rule 1", "The face: the class of the document, public and final");
        int modifiers = StoryPanels.class.getModifiers();
        holds("the class is public and final", Modifier.isPublic(modifiers) && Modifier.isFinal(modifiers));
        Map<String, String> methods = new TreeMap<>();
        for (Method method : StoryPanels.class.getDeclaredMethods()) {
            String name = method.getName();
            if (Modifier.isPublic(method.getModifiers())) {
                StringBuilder types = new StringBuilder();
                for (Class<?> type : method.getParameterTypes()) {
                    types.append(type.getName().charAt(0));
                }
                methods.put(name, types.toString());
                Check.dueText("the answer of " + name, method.getReturnType().getName(), "int");
                holds(name + " is no static one", !Modifier.isStatic(method.getModifiers()));
            } else {
                holds(name + " is private", Modifier.isPrivate(method.getModifiers()));
                holds(name + " bears no public name", !FACE.containsKey(name));
            }
        }
        Check.dueText("the methods", methods.toString(), new TreeMap<>(FACE).toString());
        Constructor<?>[] made = StoryPanels.class.getDeclaredConstructors();
        Check.due("constructors", made.length, 1);
        Check.due("its parameters", made[0].getParameterCount(), 0);
        holds("it is public", Modifier.isPublic(made[0].getModifiers()));
    }

    private static void theClassesInside() {
        Check.sentence("LANGUAGE.md, rules 1 and 11", "the classes inside it, which are private or package-visible and"
                + " static");
        Class<?>[] inside = StoryPanels.class.getDeclaredClasses();
        holds("some twelve classes at most", inside.length < 12);
        for (Class<?> one : inside) {
            int modifiers = one.getModifiers();
            holds(one + " is static", Modifier.isStatic(modifiers));
            holds(one + " is private or package-visible",
                    !Modifier.isPublic(modifiers) && !Modifier.isProtected(modifiers));
        }
        for (Class<?> one : Arrays.copyOf(inside, inside.length + 1)) {
            Class<?> of = one == null ? StoryPanels.class : one;
            for (Method method : of.getDeclaredMethods()) {
                holds(method + " has seven parameters at most", method.getParameterCount() <= 7);
                holds(method + " is not synchronized", !Modifier.isSynchronized(method.getModifiers()));
            }
            int fields = 0;
            for (Field field : of.getDeclaredFields()) {
                boolean isStatic = Modifier.isStatic(field.getModifiers());
                fields += isStatic ? 0 : 1;
                holds(field + " is final if it is static", !isStatic || Modifier.isFinal(field.getModifiers()));
            }
            holds(of + " has some twenty fields at most", fields <= 20);
        }
    }

    private static void theFields() {
        Check.sentence("LANGUAGE.md, rule 1", "the public constructor, methods and constants of the document and no"
                + " other public, protected or package-visible member");
        TreeSet<String> fields = new TreeSet<>();
        for (Field field : StoryPanels.class.getDeclaredFields()) {
            if (!Modifier.isPrivate(field.getModifiers())) {
                fields.add(field.getName());
                holds(field + " is public, static, final and an int",
                        field.toString().equals("public static final int StoryPanels." + field.getName()));
            }
        }
        Check.dueText("the constants", fields.toString(), "[BAD_VALUE, FULL, NONE, NOT_POSSIBLE, UNKNOWN]");
    }

    private static void theWords(String source) {
        Check.sentence("LANGUAGE.md, rules 2 to 6 and 13", "what is ruled out by its word");
        String code = source.replaceAll("//[^\n]*", "").replaceAll("(?s)/\\*.*?\\*/", "");
        String[] words = {"throw", "throws", "try", "catch", "synchronized", "assert", "package", "protected",
            "Object", "Class", "Thread", "Random", "random", "Scanner", "Runtime", "hashCode", "exit",
            "nanoTime", "currentTimeMillis", "System\\.out", "System\\.err", "System\\.in"};
        for (String word : words) {
            holds("without the word " + word, !Pattern.compile("\\b" + word + "\\b").matcher(code).find());
        }
        holds("without a method reference", !code.contains("::"));
        String withoutCases = code.replaceAll("\\b(case\\b[^;{}]*?|default\\s*)->", "");
        holds("without a lambda", !withoutCases.contains("->"));
        holds("without a static initialiser", !Pattern.compile("\\bstatic\\s*\\{").matcher(code).find());
        int[] strange = code.chars().filter(sign -> sign > 127).toArray();
        Check.due("signs above 127", strange.length, 0);
    }
}
