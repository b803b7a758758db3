import java.lang.reflect.Array;
import java.lang.reflect.Constructor;
import java.lang.reflect.Field;
import java.lang.reflect.Method;
import java.lang.reflect.Modifier;
import java.nio.file.Files;
import java.nio.file.Path;
import java.util.ArrayList;
import java.util.IdentityHashMap;
import java.util.List;
import java.util.Map;
import java.util.Set;
import java.util.TreeSet;
import java.util.regex.Matcher;
import java.util.regex.Pattern;

/** What of LANGUAGE.md can be seen from the source and from the class: the face, sizes, what is made. */
final class RuleTests {
    private static final Set<String> FACE = Set.of("feed", "kase", "tongue", "text", "fault", "told", "letter", "piece", "word",
        "at", "needs", "habit", "can", "lacks", "set", "print", "apart", "page", "read", "least", "fitting", "wordings", "want",
        "forget", "most", "greedy", "bound", "said", "lost", "ends", "exchange", "cast", "together", "image", "restore", "count");

    private RuleTests() {
    }

    static void run() throws Exception {
        String source = Files.readString(Path.of("src/main/java/WornType.java"));
        face();
        classes();
        words(source);
        methods(source.split("\n"));
        room();
    }

    private static void face() {
        Set<String> open = new TreeSet<>();
        for (Method m : WornType.class.getDeclaredMethods()) {
            if (Modifier.isPrivate(m.getModifiers())) {
                Checks.is("no private method is named as a public one: " + m.getName(), FACE.contains(m.getName()) ? 1 : 0, 0);
            } else {
                Checks.is(m.getName() + " is public", Modifier.isPublic(m.getModifiers()) ? 1 : 0, 1);
                open.add(m.getName());
            }
        }
        Checks.is("the face is the document's", open.equals(new TreeSet<>(FACE)) ? 1 : 0, 1);
        for (Constructor<?> c : WornType.class.getDeclaredConstructors()) {
            Checks.is("one constructor, public", Modifier.isPublic(c.getModifiers()) ? c.getParameterCount() : 9, 0);
        }
        for (Field f : WornType.class.getDeclaredFields()) {
            Checks.is("open is NONE alone: " + f.getName(), Modifier.isPrivate(f.getModifiers()) ? 1 : 0,
                f.getName().equals("NONE") ? 0 : 1);
        }
    }

    private static void classes() {
        Class<?>[] inside = WornType.class.getDeclaredClasses();
        Checks.is("some twelve classes", inside.length <= 11 ? 1 : 0, 1);
        List<Class<?>> all = new ArrayList<>(List.of(inside));
        all.add(WornType.class);
        for (Class<?> c : all) {
            int fields = 0;
            for (Field f : c.getDeclaredFields()) {
                boolean still = Modifier.isStatic(f.getModifiers());
                fields += still ? 0 : 1;
                Checks.is("static fields are final: " + f.getName(), still && !Modifier.isFinal(f.getModifiers()) ? 1 : 0, 0);
            }
            Checks.is("some twenty fields: " + c.getSimpleName(), fields <= 20 ? 1 : 0, 1);
            for (Method m : c.getDeclaredMethods()) {
                Checks.is("at most seven parameters: " + m.getName(), m.getParameterCount() <= 7 ? 1 : 0, 1);
            }
        }
    }

    private static void words(String source) {
        String bare = source.replaceAll("(?s)/\\*.*?\\*/", "").replaceAll("//[^\n]*", "");
        for (String never : List.of("->", "::", "catch", "finally", "synchronized", "assert", "static {", "double", "float",
            "System.", "Arrays.", "@", "package", "protected", "hashCode", "toString", "equals(")) {
            Checks.is("not used: " + never, bare.indexOf(never), -1);
        }
        Matcher imports = Pattern.compile("import ([^;]*);").matcher(bare);
        while (imports.find()) {
            Checks.is("imported: " + imports.group(1), imports.group(1).equals("java.util.NoSuchElementException") ? 1 : 0, 1);
        }
        Matcher made = Pattern.compile("(?m)^(.*)\\bnew (\\w+)").matcher(bare);
        while (made.find()) {
            boolean thrown = made.group(1).trim().equals("throw");
            boolean kept = made.group(1).matches(" {8}(    )?\\w+(\\[i\\])? = ");
            Checks.is("made only by constructors, or thrown: " + made.group(), thrown || kept ? 1 : 0, 1);
        }
    }

    private static void methods(String[] lines) {
        Pattern head = Pattern.compile("^( {4}| {8})(?! )[^=;]*\\) ?(throws [\\w, ]+)?\\{$");
        for (int i = 0; i < lines.length; i++) {
            Matcher m = head.matcher(lines[i]);
            if (m.matches() && !lines[i].contains(" class ")) {
                int end = i;
                while (!lines[end].equals(m.group(1) + "}")) {
                    end++;
                }
                Checks.is("a short method: " + lines[i].trim(), end - i <= 60 ? 1 : 0, 1);
            }
        }
    }

    /** Of one room of 600,000 objects and 7.3 million elements, one object should take little. */
    private static void room() throws Exception {
        Map<Object, Object> seen = new IdentityHashMap<>();
        long elements = walk(new WornType(), seen);
        Checks.is("objects", seen.size() <= 300 ? 1 : 0, 1);
        Checks.is("elements", elements <= 20000 ? 1 : 0, 1);
    }

    private static long walk(Object o, Map<Object, Object> seen) throws Exception {
        if (o == null || seen.put(o, o) != null) {
            return 0;
        }
        long sum = 0;
        if (o.getClass().isArray()) {
            sum += Array.getLength(o);
            for (int i = 0; i < Array.getLength(o) && !o.getClass().getComponentType().isPrimitive(); i++) {
                sum += walk(Array.get(o, i), seen);
            }
            return sum;
        }
        for (Field f : o.getClass().getDeclaredFields()) {
            if (!Modifier.isStatic(f.getModifiers())) {
                f.setAccessible(true);
                sum++;
                sum += f.getType().isPrimitive() ? 0 : walk(f.get(o), seen);
            }
        }
        return sum;
    }
}
