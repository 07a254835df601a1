import java.io.IOException;
import java.nio.charset.StandardCharsets;
import java.nio.file.Files;
import java.nio.file.Path;
import java.util.List;
import java.util.regex.Matcher;
import java.util.regex.Pattern;

/** What can be seen of LANGUAGE.md's rules in the text of the class; run from the project's folder. */
public final class LanguageTest {
    private static int wrong = 0;

    private static void fail(int rule, String what) {
        wrong++;
        System.out.println("rule " + rule + ": " + what);
    }

    public static void main(String[] args) throws IOException {
        String source = Files.readString(Path.of("src/main/java/PayUntold.java"), StandardCharsets.ISO_8859_1);
        String code = source.replaceAll("(?s)/\\*.*?\\*/", "").replaceAll("//[^\n]*", "");
        signs(source);
        words(code);
        face(code);
        classes(code);
        methods(code);
        System.out.println(wrong == 0 ? "no rule is seen broken" : wrong + " places break a rule");
        if (wrong != 0) {
            System.exit(1);
        }
    }

    private static void signs(String source) {
        for (int i = 0; i < source.length(); i++) {
            char sign = source.charAt(i);
            if (sign != '\n' && (sign < ' ' || sign > '~')) {
                fail(4, "a sign " + (int) sign + " at " + i);
            }
        }
    }

    private static void words(String code) {
        String[] forbidden = {"throw", "throws", "try", "catch", "finally", "synchronized", "assert", "equals",
            "hashCode", "toString", "System\\.(?!arraycopy)", "->", "::", "@", "protected", "package", "yield",
            "import (?!java\\.util\\.Arrays;)", "Exact", "\\+ *\"", "\" *\\+", "volatile", "transient", "native"};
        for (String word : forbidden) {
            String edge = Character.isLetter(word.charAt(0)) && !word.equals("Exact") ? "\\b" : "";
            Matcher found = Pattern.compile(edge + word + (word.matches("[a-zA-Z]+") ? edge : "")).matcher(code);
            if (found.find()) {
                fail(6, "the word " + found.group());
            }
        }
    }

    private static void face(String code) {
        List<String> names = List.of("feed", "house", "told", "worker", "knowing", "friend", "of", "set", "telling",
            "year", "years", "best", "even", "spread", "bargain", "die", "slip", "known", "advert", "clear", "span",
            "can", "list", "looked", "act", "trace", "as", "image", "undo", "count");
        Matcher publics = Pattern.compile("(?m)^    public int (\\w+)\\(").matcher(code);
        int many = 0;
        while (publics.find()) {
            many++;
            if (!names.contains(publics.group(1))) {
                fail(1, "public " + publics.group(1));
            }
        }
        if (many != names.size()) {
            fail(1, many + " public methods");
        }
        Matcher others = Pattern.compile("(?m)^ +(?!public)(?:private )?(?:static )?\\w+(?:\\[\\])? (\\w+)\\([^)]*\\) \\{")
            .matcher(code);
        while (others.find()) {
            if (names.contains(others.group(1))) {
                fail(1, "no public method, but named so: " + others.group(1));
            }
        }
        Matcher open = Pattern.compile("(?m)^    (?!public |private |})\\S.*").matcher(code);
        while (open.find()) {
            fail(1, "neither public nor private: " + open.group());
        }
    }

    private static void classes(String code) {
        Matcher inside = Pattern.compile("\\b(class|interface|enum|record) \\w+").matcher(code);
        int many = 0;
        while (inside.find()) {
            many++;
        }
        if (many > 12) {
            fail(11, many + " classes");
        }
        Matcher notStatic = Pattern.compile("(?m)^ +(?!private static )\\w.* class \\w+").matcher(code);
        while (notStatic.find()) {
            fail(2, notStatic.group());
        }
        Matcher statics = Pattern.compile("(?m)^ +(?:private |public )?static (?!final )[^({]*[;=]").matcher(code);
        while (statics.find()) {
            fail(5, statics.group());
        }
    }

    private static void methods(String code) {
        Matcher methods = Pattern.compile("(?m)^( +)\\S[^=;\n]*\\(([^)]*)\\) \\{\n").matcher(code);
        while (methods.find()) {
            int end = code.indexOf("\n" + methods.group(1) + "}", methods.end());
            String body = end < 0 ? "" : code.substring(methods.end(), end);
            if (body.lines().count() > 60) {
                fail(11, "long: " + methods.group().trim());
            }
            if (methods.group(2).split(",").length > 7) {
                fail(11, "parameters: " + methods.group().trim());
            }
        }
    }
}
