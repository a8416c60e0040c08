import java.io.IOException;
import java.nio.file.Files;
import java.nio.file.Path;
import java.util.ArrayList;
import java.util.LinkedHashMap;
import java.util.List;
import java.util.Map;
import java.util.function.Consumer;

/**
 * The document's sentences, by their sections, and which of them were tried. Each test quotes the words that it tries,
 * so a quotation that the document does not have, and a sentence that no test quotes, are wrong too.
 */
final class Sheet {
    private final Map<String, List<String>> sections = new LinkedHashMap<>();
    private final Map<String, List<String>> quotations = new LinkedHashMap<>();
    private int tests;
    private int checks;
    private int wrong;

    Sheet(Path document) throws IOException {
        String section = "";
        for (String line : Files.readAllLines(document)) {
            if (line.startsWith("## ")) section = line.substring(3).replaceAll(":.*", "");
            if (line.isBlank() || line.startsWith("#")) continue;
            List<String> sentences = sections.computeIfAbsent(section, name -> new ArrayList<>());
            if (section.startsWith("Promise")) {
                sentences.add(line.replaceFirst("^- ", "").replaceFirst("^`\\w+ \\w+\\(.*\\).*?`: ", ""));
            } else {
                sentences.addAll(List.of(line.split("(?<=\\.)\\s+")));
            }
        }
    }

    int tests() {
        return tests;
    }

    int checks() {
        return checks;
    }

    int wrong() {
        return wrong;
    }

    private void say(String what) {
        wrong++;
        System.out.println(what);
    }

    /** A test of these words of that section, on an object of its own. */
    void test(String section, String words, Consumer<World> test) {
        tests++;
        quote(section, words);
        World w = new World();
        test.accept(w);
        w.lookForChanges();
        checks += w.checks();
        if (w.checks() == 0) say(section + ", \"" + words + "\": nothing is looked at");
        if (w.complaints().isEmpty()) return;
        say(section + ", \"" + words + "\":");
        for (String complaint : w.complaints()) System.out.println("    " + complaint);
    }

    private void quote(String section, String words) {
        quotations.computeIfAbsent(section, name -> new ArrayList<>()).add(words);
        for (String sentence : sections.getOrDefault(section, List.of())) {
            if (sentence.contains(words)) return;
        }
        say(section + " does not say \"" + words + "\"");
    }

    /** In the sections that promise something, each part of a sentence, between its semicolons, is to be tried. */
    void lookForUntried() {
        for (Map.Entry<String, List<String>> section : sections.entrySet()) {
            String name = section.getKey();
            if (!name.equals("Terms") && !name.startsWith("Promise")) continue;
            for (String sentence : section.getValue()) {
                if (promisesNothing(sentence)) continue;
                for (String part : sentence.replaceAll("[.;]$", "").split(";\\s+")) {
                    if (!isTried(name, part)) say(name + ", no test tries: " + part);
                }
            }
        }
    }

    private boolean isTried(String section, String part) {
        for (String words : quotations.getOrDefault(section, List.of())) {
            String bare = words.replaceAll("[.;]$", "");
            if (bare.contains(part) || part.contains(bare)) return true;
        }
        return false;
    }

    /** What the terms say of the interface's headings, and a sentence that names the methods alone. */
    private static boolean promisesNothing(String sentence) {
        return sentence.startsWith("Ahead of the calls")
            || sentence.startsWith("Children, homes, reports, orders, wishes and visits are told")
            || List.of("Children, homes", "Stays, allowances", "Visits, workers, files").contains(sentence);
    }
}
