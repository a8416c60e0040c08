import java.io.IOException;
import java.nio.file.Files;
import java.nio.file.Path;
import java.util.List;
import java.util.regex.Matcher;
import java.util.regex.Pattern;

/** Those rules of LANGUAGE.md that can be read off the source's text, comments and written texts left out. */
public final class LanguageTest {
    private static final String SOURCE = "src/main/java/FosterHouse.java";

    private static final String[][] FORBIDDEN = {
        {"1", "\\bpackage\\b"}, {"1", "\\bprotected\\b"}, {"2", "->"}, {"2", "::"}, {"4", "\\bimport\\b"},
        {"4", "Exact\\s*\\("}, {"4", "\\bSystem\\.(?!arraycopy)"}, {"5", "\\bstatic\\s*\\{"}, {"6", "\\bfinally\\b"},
        {"6", "\\bsynchronized\\b"}, {"6", "\\bassert\\b"}, {"6", "\\bcatch\\b"}, {"6", "\\.(equals|hashCode|toString)\\("},
        {"6", "catch\\s*\\(\\s*(ArrayIndexOutOfBounds|NullPointer|Arithmetic|ClassCast|NegativeArraySize|ArrayStore|Runtime)?Exception"},
        {"6", "\\bthrow\\s+(?!new\\s+(IllegalStateException|IllegalArgumentException|IndexOutOfBoundsException)\\()"},
        {"13", "\\b(Random|Thread|Math\\.random|nanoTime|currentTimeMillis|Files|Socket)\\b"},
    };

    private static int wrong = 0;

    private static void say(String rule, String what) {
        wrong++;
        System.out.println("rule " + rule + ": " + what);
    }

    private static String withoutWords(String source) {
        return source.replaceAll("(?s)/\\*.*?\\*/", " ").replaceAll("//[^\\n]*", " ").replaceAll("\"(\\\\.|[^\"\\\\])*\"", "\"\"");
    }

    private static int closing(String code, int open) {
        int depth = 0;
        for (int at = open; at < code.length(); at++) {
            char c = code.charAt(at);
            if (c == '{') depth++;
            if (c == '}') depth--;
            if (depth == 0) return at;
        }
        return code.length();
    }

    private static int lines(String text) {
        return text.split("\n", -1).length;
    }

    private static void lookAtMethods(String code) {
        Pattern head = Pattern.compile("\\b(\\w+)\\s*\\(([^()]*)\\)\\s*(throws [\\w, \\n]+?)?\\s*\\{");
        Matcher m = head.matcher(code);
        while (m.find()) {
            if (List.of("if", "for", "while", "switch").contains(m.group(1))) continue;
            String body = code.substring(m.end() - 1, closing(code, m.end() - 1));
            if (lines(body) > 60) say("11", m.group(1) + " is long");
            if (!m.group(2).isBlank() && m.group(2).split(",").length > 7) say("11", m.group(1) + " takes more than seven");
            if (Character.isUpperCase(m.group(1).charAt(0)) && body.contains("throw ")) say("6", m.group(1) + " throws in a constructor");
        }
    }

    public static void main(String[] args) throws IOException {
        String source = Files.readString(Path.of(SOURCE));
        String code = withoutWords(source);
        for (int at = 0; at < source.length(); at++) {
            char c = source.charAt(at);
            if (c != '\n' && (c < 32 || c > 126)) say("4", "a sign of the number " + (int) c);
        }
        for (String[] f : FORBIDDEN) {
            Matcher m = Pattern.compile(f[1]).matcher(code);
            if (m.find()) say(f[0], m.group());
        }
        Matcher joined = Pattern.compile("\"\"\\s*\\+|\\+\\s*\"\"").matcher(code);
        if (joined.find()) say("10", "texts are joined by +");
        int classes = 0;
        Matcher m = Pattern.compile("\\b(class|enum|record|interface)\\s+\\w+").matcher(code);
        while (m.find()) classes++;
        if (classes > 12) say("11", classes + " classes");
        lookAtMethods(code);
        System.out.println(classes + " classes, " + lines(source) + " lines, " + wrong + " wrong");
        if (wrong != 0) System.exit(1);
    }
}
