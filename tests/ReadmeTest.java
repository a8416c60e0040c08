import java.io.File;
import java.io.IOException;
import java.lang.reflect.Method;
import java.lang.reflect.Modifier;
import java.nio.file.Files;
import java.nio.file.Path;
import java.util.ArrayList;
import java.util.List;
import java.util.Map;
import java.util.TreeMap;
import java.util.regex.Matcher;
import java.util.regex.Pattern;

/** README.md: its example compiles and answers as it says, and its table tells each call and what it throws. */
public final class ReadmeTest {
    private static final Pattern EXAMPLE = Pattern.compile("(?s)```java\\n(.*?)```");
    private static final Pattern ANSWER = Pattern.compile("^\\s*(?:int |boolean )?(\\w+) = .*;\\s*// -> (\\S+).*$");
    private static final Pattern ROW = Pattern.compile("(?m)^\\| `(\\w+)\\((.*?)\\)` \\|.*\\| ([^|]*) \\|$");
    private static final Map<String, String> WORDS = Map.of("IndexOutOfBoundsException", "index",
        "IllegalArgumentException", "argument", "IllegalStateException", "state");
    private static final int FEWEST_ANSWERS = 25;

    private static int wrong = 0;

    private static void check(boolean is, String what) {
        if (!is) {
            wrong++;
            System.out.println("README.md: " + what);
        }
    }

    /** The example as a program that prints each variable where a comment tells its value. */
    private static String program(String example, List<String> due) {
        StringBuilder s = new StringBuilder("public final class Example {\npublic static void main(String[] args) {\n");
        for (String line : example.split("\n")) {
            s.append(line).append('\n');
            Matcher m = ANSWER.matcher(line);
            check(line.contains("// ->") == m.matches(), "an answer that can't be read: " + line);
            if (m.matches()) {
                s.append("System.out.println(\"").append(m.group(1)).append(" \" + ").append(m.group(1)).append(");\n");
                due.add(m.group(1) + " " + m.group(2));
            }
        }
        return s.append("}\n}\n").toString();
    }

    private static int run(File answers, String... command) throws IOException, InterruptedException {
        return new ProcessBuilder(command).redirectErrorStream(true).redirectOutput(answers).start().waitFor();
    }

    private static void tryExample(String example, Path folder) throws IOException, InterruptedException {
        List<String> due = new ArrayList<>();
        Path source = folder.resolve("Example.java");
        Path classes = folder.resolve("classes");
        Path answers = folder.resolve("answers");
        Files.writeString(source, program(example, due));
        int compiled = run(answers.toFile(), "javac", "-d", classes.toString(), "src/main/java/FosterHouse.java", source.toString());
        check(compiled == 0, "the example does not compile:\n" + Files.readString(answers));
        if (compiled != 0) return;
        int ended = run(answers.toFile(), "java", "-cp", classes.toString(), "Example");
        List<String> got = Files.readAllLines(answers);
        check(ended == 0, "the example ended with " + ended);
        check(due.size() >= FEWEST_ANSWERS, "the example tells " + due.size() + " answers only");
        check(got.equals(due), "the example says " + due + ", but answers " + got);
    }

    private static void remove(Path path) throws IOException {
        File[] inside = path.toFile().listFiles();
        if (inside != null) {
            for (File f : inside) remove(f.toPath());
        }
        Files.delete(path);
    }

    /** The exceptions that a row names, by their first words, in order. */
    private static List<String> words(String thrown) {
        List<String> words = new ArrayList<>();
        for (String part : thrown.split(";")) words.add(part.trim().split(":")[0]);
        return words;
    }

    private static void lookAtTable(String readme) {
        Map<String, List<String>> rows = new TreeMap<>();
        Matcher m = ROW.matcher(readme);
        while (m.find()) {
            String call = m.group(1) + " of " + m.group(2).split(",").length;
            check(rows.put(call, words(m.group(3))) == null, "two rows for " + call);
        }
        for (Method method : FosterHouse.class.getDeclaredMethods()) {
            if (!Modifier.isPublic(method.getModifiers())) continue;
            String call = method.getName() + " of " + method.getParameterCount();
            List<String> due = new ArrayList<>();
            for (Class<?> thrown : method.getExceptionTypes()) due.add(WORDS.get(thrown.getSimpleName()));
            List<String> told = rows.remove(call);
            check(due.equals(told), call + " throws " + due + ", but the table says " + told);
        }
        check(rows.isEmpty(), "the table tells calls that are none: " + rows.keySet());
        for (String name : WORDS.keySet()) check(readme.contains("- `" + name + "`:"), "nothing is said of " + name);
    }

    public static void main(String[] args) throws IOException, InterruptedException {
        String readme = Files.readString(Path.of("README.md"));
        Matcher m = EXAMPLE.matcher(readme);
        boolean isThere = m.find();
        check(isThere, "there is no example");
        if (isThere) {
            Path folder = Files.createTempDirectory("readme");
            try {
                tryExample(m.group(1), folder);
            } finally {
                remove(folder);
            }
        }
        lookAtTable(readme);
        check(readme.contains("bash .ci/run"), "nothing is said of how the tests are run");
        System.out.println("the README's example and table, " + wrong + " wrong");
        if (wrong != 0) System.exit(1);
    }
}
