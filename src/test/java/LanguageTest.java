import java.io.IOException;
import java.lang.reflect.Field;
import java.lang.reflect.Method;
import java.lang.reflect.Modifier;
import java.nio.charset.StandardCharsets;
import java.nio.file.Files;
import java.nio.file.Path;
import java.util.ArrayList;
import java.util.List;
import java.util.Set;
import java.util.TreeSet;
import java.util.regex.Matcher;
import java.util.regex.Pattern;

/** What of ../shared/LANGUAGE.md can be seen in the source and in the classes; run in the project's own directory. */
public final class LanguageTest {
    private static final Check CHECK = new Check();
    private static final Set<String> THROWN = Set.of("IllegalStateException", "IllegalArgumentException",
            "IndexOutOfBoundsException", "ArithmeticException", "UnsupportedOperationException", "NoSuchElementException",
            "RuntimeException");
    private static final Set<String> LIBRARY = Set.of("String", "StringBuilder", "Integer", "Long", "Math", "System",
            "Arrays", "ArrayList", "List", "Iterator", "Iterable", "Comparable", "Override");
    private static final Set<String> IMPORTS = Set.of("java.util.Arrays", "java.util.ArrayList", "java.util.List",
            "java.util.Iterator", "java.util.NoSuchElementException");
    private static final Set<String> ARRAYS = Set.of("copyOf", "copyOfRange", "fill");
    // What the machine throws goes by these names and by those of the classes above them.
    private static final Set<String> MACHINES = Set.of("ArrayIndexOutOfBoundsException", "NullPointerException",
            "ArithmeticException", "ClassCastException", "NegativeArraySizeException", "ArrayStoreException",
            "IndexOutOfBoundsException", "RuntimeException", "Exception", "Throwable", "Error");

    public static void main(String[] args) throws IOException {
        byte[] bytes = Files.readAllBytes(Path.of("src/main/java/IslandHall.java"));
        signs(bytes);
        String code = bare(new String(bytes, StandardCharsets.ISO_8859_1));
        library(code);
        words(code);
        exceptions(code);
        lengthsOfMethods(code);
        List<Class<?>> classes = new ArrayList<>(List.of(IslandHall.class));
        classes.addAll(List.of(IslandHall.class.getDeclaredClasses()));
        none("rule 11: classes above twelve", classes.size() <= 12 ? Set.of() : Set.of("" + classes.size()));
        for (Class<?> c : classes) {
            fields(c);
            methods(c);
        }
        CHECK.end();
    }

    private static void none(String what, Set<String> found) {
        CHECK.due(what + " " + found, found::size, 0);
    }

    /** The source without its comments and without what stands in its texts. */
    private static String bare(String source) {
        Matcher m = Pattern.compile("\"(?:\\\\.|[^\"\\\\])*\"|'(?:\\\\.|[^'\\\\])+'|//[^\n]*|/\\*.*?\\*/", Pattern.DOTALL).matcher(source);
        return m.replaceAll(found -> found.group().startsWith("\"") ? "\"\"" : found.group().startsWith("'") ? "' '"
                : found.group().replaceAll("[^\n]", ""));
    }

    private static Set<String> found(String regex, String code) {
        Set<String> found = new TreeSet<>();
        Matcher m = Pattern.compile(regex).matcher(code);
        while (m.find()) {
            found.add(m.group(m.groupCount()));
        }
        return found;
    }

    /** Rules 3 and 4: "constants, whose signs are 1 to 127". */
    private static void signs(byte[] bytes) {
        Set<String> strange = new TreeSet<>();
        for (byte b : bytes) {
            if (b != 10 && (b < 32 || b > 126)) {
                strange.add("" + b);
            }
        }
        none("rule 4: signs", strange);
    }

    /** Rule 4: "The library: only what stands here". */
    private static void library(String code) {
        Set<String> imports = found("import ([\\w.*]+);", code);
        imports.removeAll(IMPORTS);
        none("rule 4: imports", imports);
        Set<String> names = found("(?<![.\\w])([A-Z][a-z]\\w*)", code.replaceAll("import [^;]*;", ""));
        names.removeAll(found("(?:class|record|enum|interface) (\\w+)", code));
        names.removeAll(LIBRARY);
        names.removeAll(THROWN);
        none("rule 4: classes of the library", names);
        Set<String> arrays = found("\\bArrays\\.(\\w+)", code);
        arrays.removeAll(ARRAYS);
        none("rule 4: of Arrays", arrays);
        Set<String> system = found("\\bSystem\\.(\\w+)", code);
        system.remove("arraycopy");
        none("rule 4: of System", system);
        none("rule 4: of names that end in Exact", found("(\\w+Exact)\\b", code));
    }

    /** Rules 2, 6, 8 and 9: what the language leaves out. */
    private static void words(String code) {
        none("rule 2: lambdas, references to methods", found("(->|::)", code));
        none("rule 6: words", found("\\b(finally|synchronized|assert|volatile|native|transient|strictfp)\\b", code));
        none("rule 6: of every object", found("\\.(getMessage|hashCode|getClass|toString|wait|notify)\\(", code));
        none("rule 9: loops without an end", found("(while \\(true\\)|for \\(;|for \\([^;]*;\\s*;)", code));
        none("rule 10: texts joined by +", found("(\"\" *\\+|\\+ *\"\")", code));
        none("rule 3: arrays of three dimensions", found("(\\[\\]\\[\\]\\[|new \\w+\\[[^\\]]*\\]\\[[^\\]]*\\]\\[)", code));
        none("rule 5: static blocks", found("(?m)^ *(static \\{)", code));
    }

    /** Rule 6: "throw new E() or throw new E("a written text")"; nothing that the machine throws is caught. */
    private static void exceptions(String code) {
        Set<String> thrown = found("\\bthrow\\b([^;]*;)", code);
        thrown.removeIf(t -> {
            Matcher m = Pattern.compile(" new (\\w+)\\((?:\"\")?\\);").matcher(t);
            return m.matches() && THROWN.contains(m.group(1));
        });
        none("rule 6: throws", thrown);
        Set<String> caught = found("\\bcatch \\(([^)]*) \\w+\\)", code);
        caught.removeIf(c -> {
            for (String one : c.split("\\|")) {
                if (MACHINES.contains(one.trim()) || !THROWN.contains(one.trim())) {
                    return false;
                }
            }
            return true;
        });
        none("rule 6: catches", caught);
    }

    /** Rule 11: "Methods stay short (some sixty lines)". */
    private static void lengthsOfMethods(String code) {
        Set<String> tooLong = new TreeSet<>();
        String[] lines = code.split("\n");
        int methods = 0;
        for (int i = 0; i < lines.length; i++) {
            Matcher m = Pattern.compile("^( {4}| {8})(?:\\w[\\w<>\\[\\]]* )*(\\w+)\\(.*\\{$").matcher(lines[i]);
            if (!m.matches() || m.group(2).equals("if") || m.group(2).equals("for") || m.group(2).equals("while")
                    || m.group(2).equals("switch")) {
                continue;
            }
            methods++;
            int end = i;
            while (end < lines.length && !lines[end].equals(m.group(1) + "}")) {
                end++;
            }
            if (end - i + 1 > 60) {
                tooLong.add(m.group(2));
            }
        }
        none("rule 11: long methods", tooLong);
        int seen = methods;
        CHECK.due("methods were seen, " + seen, () -> seen > 100 ? 1 : 0, 1);
    }

    /** Rules 3, 5 and 11: types of fields, static ones are constants, some twenty others. */
    private static void fields(Class<?> c) {
        Set<String> wrong = new TreeSet<>();
        int own = 0;
        for (Field f : c.getDeclaredFields()) {
            boolean isStatic = Modifier.isStatic(f.getModifiers());
            own += isStatic ? 0 : 1;
            if (!isFine(f.getType()) || isStatic && !isConstant(f)) {
                wrong.add(f.getName());
            }
        }
        none("rules 3 and 5: fields of " + c.getName(), wrong);
        int number = own;
        CHECK.due("rule 11: fields of " + c.getName() + ", " + number, () -> number <= 20 ? 1 : 0, 1);
    }

    private static boolean isConstant(Field f) {
        Class<?> t = f.getType();
        Class<?> one = t.isArray() ? t.getComponentType() : t;
        boolean fit = one == int.class || one == long.class || one == char.class
                || (t.isArray() ? one == byte.class : one == boolean.class || one == String.class);
        return Modifier.isFinal(f.getModifiers()) && fit;
    }

    private static boolean isFine(Class<?> type) {
        if (!type.isArray()) {
            return type.isPrimitive() || type == String.class || type == StringBuilder.class || type == ArrayList.class
                    || type == List.class || type.getName().startsWith("IslandHall");
        }
        Class<?> one = type.getComponentType();
        if (!one.isArray()) {
            return one.isPrimitive() || one.getName().startsWith("IslandHall");
        }
        return one.getComponentType().isPrimitive();
    }

    /** Rules 1, 2 and 11: classes inside are static and hidden, no method has eight parameters or a public one's name. */
    private static void methods(Class<?> c) {
        Set<String> face = new TreeSet<>();
        for (Method m : IslandHall.class.getMethods()) {
            face.add(m.getName());
        }
        Set<String> wrong = new TreeSet<>();
        for (Method m : c.getDeclaredMethods()) {
            boolean isFace = c == IslandHall.class && Modifier.isPublic(m.getModifiers());
            if (m.getParameterCount() > 7 || !isFace && face.contains(m.getName()) || m.isSynthetic()) {
                wrong.add(m.getName());
            }
        }
        none("rules 1 and 11: methods of " + c.getName(), wrong);
        int modifiers = c.getModifiers();
        boolean hidden = !Modifier.isPublic(modifiers) && !Modifier.isProtected(modifiers) && Modifier.isStatic(modifiers);
        CHECK.due("rule 1: " + c.getName(), () -> c == IslandHall.class || hidden ? 1 : 0, 1);
    }
}
