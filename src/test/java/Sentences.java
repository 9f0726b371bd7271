import java.io.IOException;
import java.nio.file.Files;
import java.nio.file.Path;
import java.util.ArrayList;
import java.util.LinkedHashMap;
import java.util.List;
import java.util.Map;

/**
 * The sentences of the document, each with a test of its own. A test names its section and quotes
 * its sentence; what no test has quoted is found at the end.
 */
final class Sentences {
    private static final Path DOCUMENT = Path.of("../shared/DOC.md");
    private static final Map<String, String> TEXTS = new LinkedHashMap<>();
    private static final Map<String, List<String>> QUOTES = new LinkedHashMap<>();
    private static int tests = 0;

    private Sentences() {
    }

    static void test(String section, String sentence, Runnable body) {
        tests++;
        QUOTES.computeIfAbsent(section, s -> new ArrayList<>()).add(sentence);
        Checks.name(section + ", \"" + sentence + "\"");
        try {
            body.run();
        } catch (RuntimeException e) {
            Checks.due("a call has thrown " + e, 1, 0);
        }
        Checks.name("");
    }

    /** Every quotation stands in its section, and every word of the sections is quoted. */
    static void compareWithDocument() {
        System.out.println(tests + " sentences have a test each");
        if (!Files.isReadable(DOCUMENT)) {
            System.out.println("there is no " + DOCUMENT + " to compare them with");
            return;
        }
        readDocument();
        QUOTES.forEach((section, quotes) -> {
            for (String quote : quotes) {
                if (!TEXTS.getOrDefault(section, "").contains(quote)) {
                    Checks.same("a quotation from " + section, "not there", quote);
                }
            }
        });
        TEXTS.forEach((section, text) -> {
            String rest = withoutQuotes(text, QUOTES.getOrDefault(section, List.of()));
            Checks.same("what no test quotes of " + section, rest.replaceAll("[^A-Za-z0-9|]", ""), "");
        });
    }

    private static String withoutQuotes(String text, List<String> quotes) {
        List<String> longestFirst = new ArrayList<>(quotes);
        longestFirst.sort((a, b) -> b.length() - a.length());
        String rest = text;
        for (String quote : longestFirst) {
            rest = rest.replace(quote, " ");
        }
        return rest;
    }

    /** Headings and lines of capitals begin a section; signatures and the face are FaceTest's. */
    private static void readDocument() {
        String section = "";
        boolean inCode = false;
        for (String line : readLines()) {
            if (line.startsWith("## ")) {
                section = line.substring(3);
            } else if (line.matches("[A-Z ]{4,}")) {
                section = line;
            } else if (line.startsWith("```")) {
                inCode = !inCode;
            } else if (!inCode && !line.matches("`.*`|# .*|----.*") && !section.equals("Not promised")) {
                TEXTS.merge(section, line.trim(), (a, b) -> (a + " " + b).trim());
            }
        }
    }

    private static List<String> readLines() {
        try {
            return Files.readAllLines(DOCUMENT);
        } catch (IOException e) {
            Checks.same("reading " + DOCUMENT, e.toString(), "its lines");
            return List.of();
        }
    }
}
