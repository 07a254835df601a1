import java.io.IOException;
import java.lang.reflect.Constructor;
import java.lang.reflect.Field;
import java.lang.reflect.Method;
import java.lang.reflect.Modifier;
import java.nio.charset.StandardCharsets;
import java.nio.file.Files;
import java.nio.file.Path;
import java.util.ArrayList;
import java.util.List;
import java.util.Map;
import java.util.TreeMap;
import java.util.TreeSet;
import java.util.regex.Matcher;
import java.util.regex.Pattern;

/** What can be seen of LANGUAGE.md's rules in the class and in its text; run from the project's folder. */
public final class LanguageTest {
    private static int wrong = 0;

    /** The document's face: how many ints each method takes. */
    private static final Map<String, Integer> FACE = new TreeMap<>();

    /** The methods of the library that rule 4 lists. */
    private static final String LIBRARY = " length charAt isEmpty equals indexOf substring toCharArray append setCharAt"
        + " setLength deleteCharAt reverse toString add get set remove size clear of compare max min abs bitCount"
        + " floorDiv floorMod signum arraycopy copyOf copyOfRange fill clone iterator hasNext next compareTo values"
        + " ordinal intValue numberOfLeadingZeros numberOfTrailingZeros highestOneBit lowestOneBit ";

    static {
        String[] face = {"house 0", "year 0", "clear 0", "image 0", "undo 0", "feed 1", "told 1", "telling 1", "best 1",
            "even 1", "die 1", "slip 1", "known 1", "can 1", "list 1", "looked 1", "trace 1", "count 1", "friend 2",
            "of 2", "spread 2", "span 2", "as 2", "knowing 3", "set 3", "years 3", "bargain 3", "advert 3", "act 3",
            "worker 4"};
        for (String call : face) {
            FACE.put(call.substring(0, call.indexOf(' ')), call.charAt(call.length() - 1) - '0');
        }
    }

    public static void main(String[] args) throws IOException {
        String source = Files.readString(Path.of("src/main/java/PayUntold.java"), StandardCharsets.ISO_8859_1);
        String code = withoutTexts(source);
        methodsOfTheFace();
        membersOfTheFace();
        List<Class<?>> all = new ArrayList<>();
        gather(PayUntold.class, all);
        classesInside(all);
        staticFields(all);
        sizes(all);
        signs(source);
        words(code);
        imports(code);
        library(code);
        lengths(code);
        System.out.println(wrong == 0 ? "no rule is seen broken" : wrong + " places break a rule");
        if (wrong != 0) {
            System.exit(1);
        }
    }

    private static void fail(int rule, String what) {
        wrong++;
        System.out.println("rule " + rule + ": " + what);
    }

    private static void due(int rule, boolean holds, String what) {
        if (!holds) {
            fail(rule, what);
        }
    }

    /** The code without comments and with all that stands between quotes left out. */
    private static String withoutTexts(String source) {
        Pattern skipped = Pattern.compile("\"(?:\\\\.|[^\"\\\\])*\"|'(?:\\\\.|[^'\\\\])+'|/\\*(?s:.*?)\\*/|//[^\n]*");
        return skipped.matcher(source).replaceAll(found -> found.group().startsWith("\"") ? "\"\""
            : found.group().startsWith("'") ? "'c'" : "\n".repeat((int) found.group().lines().count() - 1));
    }

    private static void methodsOfTheFace() {
        TreeSet<String> missing = new TreeSet<>(FACE.keySet());
        for (Method method : PayUntold.class.getDeclaredMethods()) {
            String name = method.getName();
            if (Modifier.isPublic(method.getModifiers())) {
                boolean asTold = FACE.containsKey(name) && method.getParameterCount() == FACE.get(name)
                    && method.getReturnType() == int.class && !Modifier.isStatic(method.getModifiers());
                due(1, asTold, "public, but not of the face: " + method);
                for (Class<?> type : method.getParameterTypes()) {
                    due(1, type == int.class, "takes no int: " + method);
                }
                missing.remove(name);
            } else {
                due(1, Modifier.isPrivate(method.getModifiers()) || method.isSynthetic(), "not private: " + method);
                due(1, !FACE.containsKey(name), "private, but named as a public one: " + method);
            }
        }
        due(1, missing.isEmpty(), "not there: " + missing);
    }

    private static void membersOfTheFace() {
        due(1, Modifier.isFinal(PayUntold.class.getModifiers()), "the class is not final");
        due(1, Modifier.isPublic(PayUntold.class.getModifiers()), "the class is not public");
        due(1, PayUntold.class.getSuperclass() == Object.class, "the class is no class by itself");
        Constructor<?>[] constructors = PayUntold.class.getDeclaredConstructors();
        due(1, constructors.length == 1 && constructors[0].getParameterCount() == 0
            && Modifier.isPublic(constructors[0].getModifiers()), "not the one constructor PayUntold()");
        TreeSet<String> constants = new TreeSet<>(List.of("NONE", "BAD", "STATE", "FULL"));
        for (Field field : PayUntold.class.getDeclaredFields()) {
            if (Modifier.isPublic(field.getModifiers())) {
                due(1, constants.remove(field.getName()) && field.getType() == int.class, "public: " + field);
            } else {
                due(1, Modifier.isPrivate(field.getModifiers()) || field.isSynthetic(), "not private: " + field);
            }
        }
        due(1, constants.isEmpty(), "not there: " + constants);
    }

    private static void gather(Class<?> from, List<Class<?>> all) {
        all.add(from);
        for (Class<?> inside : from.getDeclaredClasses()) {
            gather(inside, all);
        }
    }

    private static void classesInside(List<Class<?>> all) {
        for (Class<?> one : all) {
            int is = one.getModifiers();
            if (one != PayUntold.class) {
                due(1, !Modifier.isPublic(is) && !Modifier.isProtected(is), "public or protected: " + one);
                due(2, Modifier.isStatic(is), "not static: " + one);
            }
        }
        due(11, all.size() <= 13, all.size() + " classes");
    }

    private static void staticFields(List<Class<?>> all) {
        for (Class<?> one : all) {
            for (Field field : one.getDeclaredFields()) {
                boolean isStatic = Modifier.isStatic(field.getModifiers());
                due(5, !isStatic || Modifier.isFinal(field.getModifiers()), "static and not final: " + field);
            }
        }
    }

    private static void sizes(List<Class<?>> all) {
        for (Class<?> one : all) {
            int fields = 0;
            for (Field field : one.getDeclaredFields()) {
                fields += Modifier.isStatic(field.getModifiers()) ? 0 : 1;
            }
            due(11, fields <= 20, fields + " fields of " + one);
            for (Method method : one.getDeclaredMethods()) {
                due(11, method.getParameterCount() <= 7, "too many parameters: " + method);
                due(6, !method.getName().equals("hashCode") || one.isRecord(), "its own: " + method);
            }
        }
    }

    private static void signs(String source) {
        for (int i = 0; i < source.length(); i++) {
            char sign = source.charAt(i);
            if (sign == 0 || sign > 126) {
                fail(4, "a sign " + (int) sign + " at " + i);
            }
        }
    }

    private static void words(String code) {
        String[] forbidden = {"throw", "throws", "try", "catch", "finally", "synchronized", "assert", "package",
            "protected", "volatile", "transient", "native", "strictfp", "var", "Object", "Class", "Thread", "Runtime",
            "Random", "Map", "Set", "Character", "Boolean", "Double", "Float", "Byte", "Short", "Void", "Record",
            "hashCode", "identityHashCode", "nanoTime", "currentTimeMillis", "System\\s*\\.(?!\\s*arraycopy\\b)\\s*\\w+",
            "static\\s*\\{", "\\w+Exact", "\\+\\s*\"", "\"\\s*\\+", "::"};
        for (String word : forbidden) {
            Matcher found = Pattern.compile(word.matches("[a-zA-Z]+") ? "\\b" + word + "\\b" : word).matcher(code);
            if (found.find()) {
                fail(6, "forbidden: " + found.group());
            }
        }
        Matcher arrow = Pattern.compile("(?m)^(?!\\s*(?:case|default)\\b).*->.*$").matcher(code);
        if (arrow.find()) {
            fail(2, "an arrow: " + arrow.group().trim());
        }
    }

    private static void imports(String code) {
        Matcher named = Pattern.compile("\\bjavax?\\.[\\w.*]+").matcher(code);
        while (named.find()) {
            due(4, named.group().matches("java\\.util\\.(Arrays|ArrayList|List|Iterator|\\*)"), named.group());
        }
    }

    /** What is called by a name behind a . is a method of the file or one that rule 4 lists. */
    private static void library(String code) {
        TreeSet<String> own = new TreeSet<>();
        Matcher declared = Pattern.compile("[\\w>\\]]\\s+(\\w+)\\s*\\([^()]*\\)\\s*[{;]").matcher(code);
        while (declared.find()) {
            own.add(declared.group(1));
        }
        Matcher record = Pattern.compile("\\brecord\\s+\\w+\\s*\\(([^)]*)\\)").matcher(code);
        while (record.find()) {
            own.addAll(List.of(record.group(1).split("\\W+")));
        }
        Matcher called = Pattern.compile("\\.\\s*(\\w+)\\s*\\(").matcher(code);
        while (called.find()) {
            String name = called.group(1);
            due(4, own.contains(name) || LIBRARY.contains(" " + name + " "), "calls " + name);
        }
    }

    /** Methods of some sixty lines at most. */
    private static void lengths(String code) {
        Matcher begins = Pattern.compile("(?m)^[^=;\n]*\\b(\\w+)\\s*\\([^;={}]*\\)\\s*\\{").matcher(code);
        while (begins.find()) {
            int open = 1;
            int at = begins.end();
            while (open > 0 && at < code.length()) {
                open += code.charAt(at) == '{' ? 1 : code.charAt(at) == '}' ? -1 : 0;
                at++;
            }
            long lines = code.substring(begins.end(), at).lines().count();
            due(11, lines <= 65, begins.group(1) + " has " + lines + " lines");
        }
    }
}
