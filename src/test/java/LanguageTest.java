import java.lang.reflect.Constructor;
import java.lang.reflect.Field;
import java.lang.reflect.Method;
import java.lang.reflect.Modifier;
import java.nio.file.Files;
import java.nio.file.Path;
import java.util.ArrayList;
import java.util.LinkedHashMap;
import java.util.LinkedHashSet;
import java.util.List;
import java.util.Map;
import java.util.Set;
import java.util.TreeSet;
import java.util.regex.Matcher;
import java.util.regex.Pattern;

/** The source keeps to ../shared/LANGUAGE.md, as far as a look at it can tell; each answer names the rule. */
public final class LanguageTest {
    private static final Pattern COMMENT = Pattern.compile("/\\*.*?\\*/|//[^\n]*", Pattern.DOTALL);
    private static final Pattern TEXT = Pattern.compile("\"(\\\\.|[^\"\\\\\n])*\"|'(\\\\.|[^'\\\\\n])+'");
    private static final Pattern METHOD = Pattern.compile(
        "^( {4}| {8})(?:public |private |static |final )*[\\w\\[\\]]+ (\\w+)\\([^)]*\\)(?: throws \\w+)? \\{$");
    private static final Set<String> LIBRARY = Set.of("Math.min", "Math.max", "Math.abs", "Integer.compare", "Integer.bitCount",
        "System.arraycopy", "Arrays.copyOf", "Arrays.copyOfRange", "Arrays.fill");
    private static final Set<String> MADE = Set.of("int", "long", "byte", "NoSuchElementException");
    private static final Set<String> IMPORTS = Set.of("java.util.NoSuchElementException", "java.util.Arrays",
        "java.util.ArrayList", "java.util.List", "java.util.Iterator");
    private static final Set<Class<?>> CONSTANTS = Set.of(int.class, long.class, boolean.class, char.class, String.class,
        int[].class, long[].class, char[].class, byte[].class);

    public static void main(String[] args) throws Exception {
        String source = Files.readString(Path.of("src/main/java/LakeLearns.java"));
        String code = TEXT.matcher(COMMENT.matcher(source).replaceAll("")).replaceAll("\"\"");
        List<Class<?>> classes = new ArrayList<>(List.of(LakeLearns.class.getDeclaredClasses()));
        for (Class<?> inside : classes) {
            int shape = inside.getModifiers();
            Check.due("rule 1: " + inside + " is static, and private or package-visible",
                Modifier.isStatic(shape) && !Modifier.isPublic(shape) && !Modifier.isProtected(shape), true);
            Check.due("rule 11: no class stands inside " + inside, inside.getDeclaredClasses().length, 0);
        }
        classes.add(LakeLearns.class);
        Check.due("rule 11: twelve classes at most, not " + classes.size(), classes.size() <= 12, true);
        for (Class<?> each : classes) {
            methods(each);
            fields(each, classes);
        }
        words(code);
        imports(code);
        throwsOnly(source);
        Map<String, Set<String>> calls = calls(code);
        String deepest = deepest(calls, new LinkedHashSet<>(), calls.keySet());
        Check.due("rule 11: eight deep at most: " + deepest, deepest.split(" ").length <= 8, true);
        Check.close("LanguageTest");
    }

    private static void methods(Class<?> each) {
        Set<String> face = new TreeSet<>();
        for (Method m : LakeLearns.class.getDeclaredMethods()) {
            if (Modifier.isPublic(m.getModifiers())) {
                face.add(m.getName());
            }
        }
        for (Method m : each.getDeclaredMethods()) {
            boolean open = each == LakeLearns.class && Modifier.isPublic(m.getModifiers());
            Check.due("rule 1: " + m + " bears no public one's name", open || !face.contains(m.getName()), true);
            Check.due("rule 2: " + m + " is written, not made for a lambda", m.isSynthetic(), false);
            Check.due("rule 11: seven parameters at most: " + m, m.getParameterCount() <= 7, true);
        }
        for (Constructor<?> c : each.getDeclaredConstructors()) {
            Check.due("rule 11: seven parameters at most: " + c, c.getParameterCount() <= 7, true);
        }
    }

    private static void fields(Class<?> each, List<Class<?>> own) {
        int held = 0;
        for (Field f : each.getDeclaredFields()) {
            Class<?> type = f.getType();
            if (Modifier.isStatic(f.getModifiers())) {
                Check.due("rule 5: " + f + " is final", Modifier.isFinal(f.getModifiers()), true);
                Check.due("rule 5: " + f + " is a constant", CONSTANTS.contains(type), true);
            } else {
                held++;
                Class<?> part = type.isArray() ? type.getComponentType() : type;
                Check.due("rule 3: the type of " + f, part.isPrimitive() || part == String.class || own.contains(part), true);
            }
        }
        Check.due("rule 11: twenty fields at most in " + each + ", not " + held, held <= 20, true);
    }

    /** No try at all: the class throws one exception, to its caller, and nothing of the machine's may be caught. */
    private static void words(String code) {
        for (String word : new String[] {"package", "try", "catch", "finally", "synchronized", "assert", "volatile", "native",
            "Object", "Thread", "Throwable", "hashCode"}) {
            Check.due("rules 3, 6, 13: no " + word, Pattern.compile("\\b" + word + "\\b").matcher(code).find(), false);
        }
        for (String sign : new String[] {"->", "::", "Exact(", "while (true)", "for (;;)"}) {
            Check.due("rules 2, 4, 9: no " + sign, code.contains(sign), false);
        }
        Check.due("rule 3: signs 0 to 127 alone", code.chars().allMatch(c -> c < 128), true);
        Matcher used = Pattern.compile("\\b(Math|Integer|Long|System|Arrays|Character|String|List)\\.(\\w+)").matcher(code);
        while (used.find()) {
            Check.due("rule 4: " + used.group(), LIBRARY.contains(used.group()), true);
        }
        Matcher made = Pattern.compile("\\bnew (\\w+)").matcher(code);
        while (made.find()) {
            boolean own = false;
            for (Class<?> inside : LakeLearns.class.getDeclaredClasses()) {
                own |= inside.getSimpleName().equals(made.group(1));
            }
            Check.due("rule 4: " + made.group(), own || MADE.contains(made.group(1)), true);
        }
    }

    private static void imports(String code) {
        Matcher line = Pattern.compile("(?m)^import (.*);").matcher(code);
        while (line.find()) {
            Check.due("rule 4: import " + line.group(1), IMPORTS.contains(line.group(1)), true);
        }
        Check.due("rule 4: no library by its whole name", code.replaceAll("(?m)^import .*;", "").contains("java."), false);
    }

    private static void throwsOnly(String source) {
        int thrown = 0;
        Matcher each = Pattern.compile("\\bthrow\\b[^;]*;").matcher(COMMENT.matcher(source).replaceAll(""));
        while (each.find()) {
            thrown++;
            boolean fine = each.group().matches("throw new NoSuchElementException\\((\"[^\"]*\")?\\);");
            Check.due("rule 6: " + each.group(), fine, true);
        }
        Check.due("rule 6: the document has one call that throws", thrown, 1);
    }

    /** Which of the file's methods each one calls, by names: methods of one name count as one. */
    private static Map<String, Set<String>> calls(String code) {
        Map<String, Set<String>> calls = new LinkedHashMap<>();
        Map<String, StringBuilder> bodies = new LinkedHashMap<>();
        String name = null;
        String indent = "";
        int length = 0;
        for (String line : code.split("\n")) {
            Matcher head = METHOD.matcher(line);
            if (name == null && head.matches()) {
                indent = head.group(1);
                name = head.group(2);
                length = 0;
                bodies.putIfAbsent(name, new StringBuilder());
            } else if (name != null && line.equals(indent + "}")) {
                Check.due("rule 11: sixty lines at most: " + name, length <= 60, true);
                name = null;
            } else if (name != null) {
                length++;
                bodies.get(name).append(line).append('\n');
            }
        }
        for (String each : bodies.keySet()) {
            Set<String> called = new TreeSet<>();
            Matcher call = Pattern.compile("\\b(\\w+)\\(").matcher(bodies.get(each));
            while (call.find()) {
                if (bodies.containsKey(call.group(1))) {
                    called.add(call.group(1));
                }
            }
            calls.put(each, called);
        }
        Check.due("the methods of the source are found: " + calls.size(), calls.size() > 120, true);
        return calls;
    }

    /** The longest way of calls; a recursion is gone through once. */
    private static String deepest(Map<String, Set<String>> calls, Set<String> open, Set<String> next) {
        String longest = "";
        for (String each : next) {
            if (open.add(each)) {
                String way = (each + " " + deepest(calls, open, calls.get(each))).trim();
                if (way.split(" ").length > longest.split(" ").length || longest.isEmpty()) {
                    longest = way;
                }
                open.remove(each);
            }
        }
        return longest;
    }
}
