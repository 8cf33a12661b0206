import java.io.IOException;
import java.lang.reflect.Constructor;
import java.lang.reflect.Field;
import java.lang.reflect.Method;
import java.lang.reflect.Modifier;
import java.nio.file.Files;
import java.nio.file.Path;
import java.util.Arrays;
import java.util.Map;
import java.util.TreeMap;
import java.util.TreeSet;
import java.util.regex.Pattern;

/** The face of the class, and what ../shared/LANGUAGE.md rules out and can be seen from outside. */
public final class RulesTest {
    /** Each method with the types of its parameters, i for int and c for char. */
    private static final Map<String, String> FACE = Map.ofEntries(
            Map.entry("putPanel", ""), Map.entry("redraw", "i"), Map.entry("takeAway", "i"), Map.entry("move", "iii"),
            Map.entry("moveScene", "ii"), Map.entry("time", "ii"), Map.entry("mend", "i"), Map.entry("type", "c"),
            Map.entry("clearText", ""), Map.entry("undo", ""), Map.entry("keep", ""), Map.entry("restore", ""),
            Map.entry("panel", "ii"), Map.entry("event", "iii"), Map.entry("at", "i"), Map.entry("scene", "ii"),
            Map.entry("holder", "ii"), Map.entry("breakOf", "ii"), Map.entry("firstBreak", "ii"),
            Map.entry("ifMoved", "iii"), Map.entry("bestPlace", "ii"), Map.entry("count", "i"));

    public static void main(String[] args) throws IOException {
        theFace();
        theClassesInside();
        theFields();
        theWords(Files.readString(Path.of("src/main/java/StoryPanels.java")));
        Check.end("RulesTest");
    }

    private static void holds(String what, boolean holds) {
        Check.due(what, holds ? 1 : 0, 1);
    }

    private static void theFace() {
        Check.sentence("LANGUAGE.md, rule 1", "The face: the class of the document, public and final");
        int modifiers = StoryPanels.class.getModifiers();
        holds("the class is public and final", Modifier.isPublic(modifiers) && Modifier.isFinal(modifiers));
        Check.sentence("LANGUAGE.md, rule 1", "the public constructor, methods and constants of the document");
        Map<String, String> methods = new TreeMap<>();
        for (Method method : StoryPanels.class.getDeclaredMethods()) {
            String name = method.getName();
            if (Modifier.isPublic(method.getModifiers())) {
                StringBuilder types = new StringBuilder();
                for (Class<?> type : method.getParameterTypes()) {
                    types.append(type.getName().charAt(0));
                }
                methods.put(name, types.toString());
                Check.dueText("the answer of " + name, method.getReturnType().getName(), "int");
                holds(name + " is no static one", !Modifier.isStatic(method.getModifiers()));
            } else {
                holds(name + " is private", Modifier.isPrivate(method.getModifiers()));
            }
        }
        Check.dueText("the methods", methods.toString(), new TreeMap<>(FACE).toString());
        Constructor<?>[] made = StoryPanels.class.getDeclaredConstructors();
        Check.due("constructors", made.length, 1);
        Check.due("its parameters", made[0].getParameterCount(), 0);
        holds("it is public", Modifier.isPublic(made[0].getModifiers()));
        for (String name : FACE.keySet()) {
            Check.sentence("The public face", "public int " + name + "(");
            Check.due("methods of this name", timesIn(StoryPanels.class.getMethods(), name), 1);
        }
    }

    private static int timesIn(Method[] methods, String name) {
        int times = 0;
        for (Method method : methods) {
            times += method.getName().equals(name) ? 1 : 0;
        }
        return times;
    }

    private static void theClassesInside() {
        Check.sentence("LANGUAGE.md, rule 1", "the classes inside it, which are private or package-visible and"
                + " static");
        Class<?>[] inside = StoryPanels.class.getDeclaredClasses();
        for (Class<?> one : inside) {
            int modifiers = one.getModifiers();
            holds(one + " is static", Modifier.isStatic(modifiers));
            holds(one + " is private or package-visible",
                    !Modifier.isPublic(modifiers) && !Modifier.isProtected(modifiers));
        }
        Check.sentence("LANGUAGE.md, rule 11", "the file has at most some twelve classes");
        holds("some twelve classes at most", inside.length < 12);
        Class<?>[] all = Arrays.copyOf(inside, inside.length + 1);
        all[inside.length] = StoryPanels.class;
        theirMethods(all);
        theirFields(all);
    }

    private static void theirMethods(Class<?>[] all) {
        for (Class<?> of : all) {
            for (Method method : of.getDeclaredMethods()) {
                Check.sentence("LANGUAGE.md, rule 11", "A method takes at most seven parameters.");
                holds(method + " has seven parameters at most", method.getParameterCount() <= 7);
                Check.sentence("LANGUAGE.md, rule 1", "No private method bears the name of a public one.");
                boolean hidden = Modifier.isPrivate(method.getModifiers());
                holds(method + " bears no public name", !hidden || !FACE.containsKey(method.getName()));
            }
        }
    }

    private static void theirFields(Class<?>[] all) {
        for (Class<?> of : all) {
            int fields = 0;
            for (Field field : of.getDeclaredFields()) {
                Check.sentence("LANGUAGE.md, rule 5", "Static fields are final");
                boolean isStatic = Modifier.isStatic(field.getModifiers());
                holds(field + " is final if it is static", !isStatic || Modifier.isFinal(field.getModifiers()));
                fields += isStatic ? 0 : 1;
            }
            Check.sentence("LANGUAGE.md, rule 11", "a class some twenty fields beside its constants");
            holds(of + " has some twenty fields at most", fields <= 20);
        }
    }

    private static void theFields() {
        Check.sentence("LANGUAGE.md, rule 1", "the public constructor, methods and constants of the document and no"
                + " other public, protected or package-visible member");
        TreeSet<String> fields = new TreeSet<>();
        for (Field field : StoryPanels.class.getDeclaredFields()) {
            if (!Modifier.isPrivate(field.getModifiers())) {
                fields.add(field.getName());
                holds(field + " is public, static, final and an int",
                        field.toString().equals("public static final int StoryPanels." + field.getName()));
            }
        }
        Check.dueText("the constants", fields.toString(), "[BAD_VALUE, FULL, NONE, NOT_POSSIBLE, UNKNOWN]");
        dueConstant("UNKNOWN", StoryPanels.UNKNOWN, -1);
        dueConstant("BAD_VALUE", StoryPanels.BAD_VALUE, -2);
        dueConstant("FULL", StoryPanels.FULL, -3);
        dueConstant("NOT_POSSIBLE", StoryPanels.NOT_POSSIBLE, -4);
        dueConstant("NONE", StoryPanels.NONE, -5);
    }

    private static void dueConstant(String name, int constant, int due) {
        Check.sentence("The public face", "public static final int " + name + " = " + due + ";");
        Check.due(name, constant, due);
    }

    private static void theWords(String source) {
        String code = source.replaceAll("//[^\n]*", "").replaceAll("(?s)/\\*.*?\\*/", "");
        Check.sentence("LANGUAGE.md, rule 6", "No throw, try, catch, synchronized, assert");
        without(code, "throw", "throws", "try", "catch", "synchronized", "assert");
        Check.sentence("LANGUAGE.md, rule 13", "No clock, no randomness, no file, network, thread or environment");
        without(code, "Thread", "Random", "random", "Scanner", "Runtime", "exit");
        Check.sentence("LANGUAGE.md, rule 4", "The library: only what stands here.");
        without(code, "System\\.(?!arraycopy\\b)\\w+", "import (?!java\\.util\\.(ArrayList|List|Arrays|Iterator);)",
                "Object", "Class");
        Check.sentence("LANGUAGE.md, rule 6", "No equals, hashCode or toString of your own objects or records");
        without(code, "hashCode");
        Check.sentence("LANGUAGE.md, rule 1", "no other public, protected or package-visible member");
        without(code, "protected");
        Check.sentence("LANGUAGE.md, rule 2", "no lambda, no method reference");
        holds("without a method reference", !code.contains("::"));
        String withoutCases = code.replaceAll("\\b(case\\b[^;{}]*?|default\\s*)->", "");
        holds("without a lambda", !withoutCases.contains("->"));
        Check.sentence("LANGUAGE.md, rule 5", "no static initialiser block");
        holds("without a static initialiser", !Pattern.compile("\\bstatic\\s*\\{").matcher(code).find());
        Check.sentence("LANGUAGE.md, rule 4", "constants, whose signs are 1 to 127");
        Check.due("signs above 127", code.chars().filter(sign -> sign > 127).count(), 0);
    }

    private static void without(String code, String... words) {
        for (String word : words) {
            holds("without " + word, !Pattern.compile("\\b(" + word + ")\\b").matcher(code).find());
        }
    }
}
