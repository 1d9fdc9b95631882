import java.io.IOException;
import java.nio.file.Files;
import java.nio.file.Path;
import java.util.ArrayList;
import java.util.List;
import java.util.Map;
import java.util.TreeMap;
import java.util.regex.Matcher;
import java.util.regex.Pattern;

/** Which words of the document have a test, and what was not as due in it. */
final class Sentences {
    /** Where words stand that are under no promise: "What it is" and "Terms". */
    static final int TERMS = 0;
    private static final Path DOCUMENT = Path.of("../shared/DOC.md");

    private final Map<Integer, List<String>> quotes = new TreeMap<>();
    private String now = "";
    private int callsOfNow = 1;
    private int tests;
    private int wrong;

    /** Begins the test of some words; they must stand in the document at that promise, to the letter. */
    void says(int promise, String words) {
        endTest();
        now = (promise == TERMS ? "terms" : "promise " + promise) + ", \"" + words + "\"";
        callsOfNow = 0;
        tests++;
        quote(promise, words);
    }

    /** Words that no call can show to be broken. */
    void saysOnly(int promise, String words) {
        quote(promise, words);
    }

    private void quote(int promise, String words) {
        quotes.computeIfAbsent(promise, p -> new ArrayList<>()).add(words);
    }

    void due(String call, long got, long want) {
        callsOfNow++;
        if (got != want) report(now + ": " + call + " answered " + got + ", due is " + want);
    }

    private void endTest() {
        if (callsOfNow == 0) report(now + ": nothing was called");
    }

    private void report(String words) {
        wrong++;
        System.out.println(words);
    }

    /** Says what there was, and answers whether all was as due. */
    boolean end() throws IOException {
        endTest();
        if (Files.isReadable(DOCUMENT)) {
            compare(sections(Files.readAllLines(DOCUMENT)));
        } else {
            System.out.println("no document at " + DOCUMENT + ": the quotes were not compared with it");
        }
        System.out.println(wrong == 0 ? tests + " sentences hold" : wrong + " things are not as due");
        return wrong == 0;
    }

    private void compare(Map<Integer, String> sections) {
        for (int promise : quotes.keySet()) {
            if (!sections.containsKey(promise)) report("the document has no promise " + promise);
        }
        for (Map.Entry<Integer, String> section : sections.entrySet()) {
            compareSection(section.getKey(), section.getValue());
        }
    }

    private void compareSection(int promise, String text) {
        char[] left = text.toCharArray();
        for (String words : quotes.getOrDefault(promise, List.of())) {
            int at = text.indexOf(words);
            if (at < 0) report("promise " + promise + " does not say \"" + words + "\"");
            for (; at >= 0; at = text.indexOf(words, at + 1)) {
                for (int i = at; i < at + words.length(); i++) left[i] = '\n';
            }
        }
        Matcher untested = Pattern.compile("[^\\n]*[A-Za-z0-9][^\\n]*").matcher(new String(left));
        while (untested.find()) report("promise " + promise + ", without a test: \"" + untested.group().trim() + "\"");
    }

    /** The document's words by promise, each on one line; headings, the face and what is not promised left out. */
    private static Map<Integer, String> sections(List<String> lines) {
        Map<Integer, String> sections = new TreeMap<>();
        int promise = -1;
        for (String line : lines) {
            Matcher heading = Pattern.compile("## Promise (\\d+):.*").matcher(line);
            if (heading.matches()) {
                promise = Integer.parseInt(heading.group(1));
            } else if (line.startsWith("#")) {
                promise = line.equals("## What it is") || line.equals("## Terms") ? TERMS : -1;
            } else if (promise >= 0) {
                sections.merge(promise, line, (a, b) -> a + " " + b);
            }
        }
        sections.replaceAll((p, text) -> wordsOf(p, text));
        return sections;
    }

    private static String wordsOf(int promise, String text) {
        String words = text.replaceAll("```(text)?", " ").replaceAll("======== \\d", " ").replaceAll("\\s+", " ").trim();
        return promise == TERMS ? words : words.replaceFirst("^`[^`]*`: ", "");
    }
}
