import java.io.IOException;
import java.lang.reflect.Field;
import java.lang.reflect.Method;
import java.lang.reflect.Modifier;
import java.nio.file.Files;
import java.nio.file.Path;
import java.util.ArrayList;
import java.util.List;
import java.util.Map;
import java.util.Set;
import java.util.TreeMap;
import java.util.TreeSet;
import java.util.regex.Matcher;
import java.util.regex.Pattern;

/** The rules of LANGUAGE.md that can be seen from the source or the compiled class, and the document's face. */
public final class LanguageTest {
    private static final Path SOURCE = Path.of("src/main/java/RainCover.java");
    private static final Path DOCUMENT = Path.of("../shared/DOC.md");
    private static final Set<String> LIBRARY = Set.of("System.arraycopy", "Integer.bitCount", "Math.max", "Math.min");

    private final Check check = new Check("LanguageTest");

    public static void main(String[] args) throws IOException {
        LanguageTest t = new LanguageTest();
        String source = bare(Files.readString(SOURCE));
        t.words(source);
        t.library(source);
        t.methods(source);
        t.constantRows(source);
        t.chains(source);
        t.face(Files.readString(DOCUMENT));
        t.classes();
        t.check.close();
    }

    /** The source without comments and without what stands between quotes. */
    private static String bare(String source) {
        return source.replaceAll("(?s)/\\*.*?\\*/", " ").replaceAll("//[^\n]*", " ")
            .replaceAll("\"[^\"\n]*\"", "\"\"").replaceAll("'.'", "' '");
    }

    private void none(String source, String pattern) {
        Matcher m = Pattern.compile(pattern).matcher(source);
        check.due("places of " + pattern, m.results().count(), 0);
    }

    private void words(String source) {
        for (String word : List.of("throw", "throws", "try", "catch", "synchronized", "assert", "import", "package",
                "double", "float", "volatile", "transient", "native", "yield", "goto", "Object", "Exception", "null")) {
            none(source, "\\b" + word + "\\b");
        }
        none(source, "->|::|@|\\?\\s*>|\\bstatic\\s*\\{");
        none(source, "\"\"\\s*\\+|\\+\\s*\"\"");
    }

    private void library(String source) {
        Matcher m = Pattern.compile("\\b(System|Integer|Long|Math|Arrays|String|Character|List|Byte|Short)\\.(\\w+)").matcher(source);
        while (m.find()) {
            check.due("may use " + m.group(), LIBRARY.contains(m.group()) ? 1 : 0, 1);
        }
        Matcher made = Pattern.compile("\\bnew\\s+(\\w+)").matcher(source);
        Set<String> own = Set.of("Valley", "Reader", "Outlook", "Sightings", "Sheet", "int", "boolean");
        while (made.find()) {
            check.due("may make " + made.group(1), own.contains(made.group(1)) ? 1 : 0, 1);
        }
    }

    /** Methods of some sixty lines, and nothing made outside of fields and the constructor. */
    private void methods(String source) {
        String[] lines = source.split("\n", -1);
        int from = -1;
        String close = "";
        String head = "";
        for (int i = 0; i < lines.length; i++) {
            if (from < 0 && lines[i].matches("\\s*(public|private)[^=]*\\)\\s*\\{")) {
                from = i;
                head = lines[i].strip();
                close = lines[i].replaceAll("\\S.*", "") + "}";
            } else if (from >= 0 && lines[i].equals(close)) {
                check.due("lines of " + head + " are few", i - from <= 60 ? 1 : 0, 1);
                from = -1;
            } else if (from >= 0 && !head.equals("public RainCover() {")) {
                check.due("nothing is made in " + head, lines[i].matches(".*\\bnew\\b.*") ? 1 : 0, 0);
            }
        }
    }

    /** Rows that are static are never changed, and never known by another name. */
    private void constantRows(String source) {
        Matcher m = Pattern.compile("\\bstatic final \\w+\\[\\] (\\w+) = \\{").matcher(source);
        int many = 0;
        while (m.find()) {
            many++;
            String name = m.group(1);
            none(source, "\\b" + name + "\\s*\\[[^\\]]*\\]\\s*([-+*/%&|^]?=(?!=)|<<=|>>=|>>>=|\\+\\+|--)");
            none(source, "(\\+\\+|--)\\s*" + name + "\\b");
            none(source, "(?<!\\] )\\b" + name + "\\b(?!\\s*\\[)");
        }
        check.due("rows that are static", many, 2);
    }

    /** No recursion, and calls that go at most eight deep; methods of one name are taken as one. */
    private void chains(String source) {
        Map<String, Set<String>> calls = callsByMethod(source);
        for (String name : calls.keySet()) {
            check.due(name + " goes at most eight deep", depth(calls, name, 1) <= 8 ? 1 : 0, 1);
        }
        check.due("methods are found: help, searchMore, offerMore, safeBits, walkDown, step, live, hand", depth(calls, "help", 1), 8);
    }

    private static Map<String, Set<String>> callsByMethod(String source) {
        Map<String, Set<String>> calls = new TreeMap<>();
        Pattern head = Pattern.compile("\\s*(?:public|private)[^=;(]*\\b(\\w+)\\([^)]*\\)\\s*\\{");
        Pattern call = Pattern.compile("\\b(\\w+)\\(");
        Set<String> open = null;
        String close = "";
        for (String line : source.split("\n", -1)) {
            Matcher begins = head.matcher(line);
            if (begins.matches()) {
                open = calls.computeIfAbsent(begins.group(1), name -> new TreeSet<>());
                close = line.replaceAll("\\S.*", "") + "}";
            } else if (open != null && line.equals(close)) {
                open = null;
            } else if (open != null) {
                Matcher called = call.matcher(line);
                while (called.find()) {
                    open.add(called.group(1));
                }
            }
        }
        return calls;
    }

    /** How deep a method goes that stands at a level; of a recursion no more is said than that it goes too deep. */
    private static int depth(Map<String, Set<String>> calls, String name, int level) {
        int deepest = level;
        for (String called : level > 8 ? Set.<String>of() : calls.get(name)) {
            if (calls.containsKey(called)) {
                deepest = Math.max(deepest, depth(calls, called, level + 1));
            }
        }
        return deepest;
    }

    private void face(String document) {
        Matcher block = Pattern.compile("(?s)```java\\s*public final class RainCover \\{(.*?)\\n\\}").matcher(document);
        check.due("the face is found", block.find() ? 1 : 0, 1);
        Set<String> due = new TreeSet<>();
        Matcher m = Pattern.compile("public (int|long) (\\w+)\\((.*?)\\);").matcher(block.group(1));
        while (m.find()) {
            int many = m.group(3).isBlank() ? 0 : m.group(3).split(",").length;
            due.add(m.group(1) + " " + m.group(2) + " " + many);
        }
        Set<String> is = new TreeSet<>();
        for (Method method : RainCover.class.getDeclaredMethods()) {
            if (!Modifier.isPrivate(method.getModifiers())) {
                is.add(method.getReturnType() + " " + method.getName() + " " + method.getParameterCount());
            }
        }
        check.due("methods of the face: " + is, is.equals(due) ? 1 : 0, 1);
        check.due("methods", is.size(), 45);
        check.due("constants", visible(RainCover.class), 4);
        check.due("constructors", RainCover.class.getConstructors().length, 1);
        check.due("final", Modifier.isFinal(RainCover.class.getModifiers()) ? 1 : 0, 1);
    }

    private static int visible(Class<?> c) {
        int many = 0;
        for (Field field : c.getDeclaredFields()) {
            many += Modifier.isPrivate(field.getModifiers()) ? 0 : 1;
        }
        return many;
    }

    private void classes() {
        List<Class<?>> all = new ArrayList<>(List.of(RainCover.class.getDeclaredClasses()));
        check.due("classes are few", all.size() <= 11 ? 1 : 0, 1);
        Set<String> taken = new TreeSet<>();
        for (Method method : RainCover.class.getDeclaredMethods()) {
            if (Modifier.isPublic(method.getModifiers())) {
                taken.add(method.getName());
            }
        }
        for (Class<?> c : all) {
            check.due(c + " is static", Modifier.isStatic(c.getModifiers()) ? 1 : 0, 1);
            check.due(c + " is private", Modifier.isPrivate(c.getModifiers()) ? 1 : 0, 1);
        }
        all.add(RainCover.class);
        for (Class<?> c : all) {
            int fields = 0;
            for (Field field : c.getDeclaredFields()) {
                boolean still = Modifier.isStatic(field.getModifiers());
                fields += still ? 0 : 1;
                check.due(field + " is final", !still || Modifier.isFinal(field.getModifiers()) ? 1 : 0, 1);
            }
            check.due("fields of " + c + " are few", fields <= 20 ? 1 : 0, 1);
            for (Method method : c.getDeclaredMethods()) {
                check.due(method + " has few parameters", method.getParameterCount() <= 7 ? 1 : 0, 1);
                boolean again = Modifier.isPrivate(method.getModifiers()) && taken.contains(method.getName());
                check.due(method + " bears a public name", again ? 1 : 0, 0);
            }
        }
    }
}
