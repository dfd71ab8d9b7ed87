import java.io.IOException;
import java.nio.file.Files;
import java.nio.file.Path;
import java.util.ArrayList;
import java.util.LinkedHashMap;
import java.util.List;
import java.util.Map;
import java.util.regex.Matcher;
import java.util.regex.Pattern;

/** The document's sentences: those that a test names must stand there, and each must be named by a test. */
final class Sentences {
    private static final Path DOCUMENT = Path.of("../shared/DOC.md");

    /** What these say can't be looked for in a call: headings, and what is told of the calls' order. */
    private static final String[] WITHOUT_A_CASE = {
        "Every ninth night the air falls down",
        "Ahead of the calls `room`",
        "Ahead of the calls `one`",
        "Ahead of the calls `hours`",
        "Ahead of the calls `swept`",
        "Ahead of the calls `feed`",
        "Ahead of the calls `sheet`",
        "Ahead of the calls `image`"};

    /** By promise; 0: what stands ahead of promise 1. */
    private final Map<Integer, List<String>> byPromise = new LinkedHashMap<>();

    static void lookUp(Edges e) throws IOException {
        if (!Files.exists(DOCUMENT)) {
            System.out.println(DOCUMENT + " isn't there: no sentence is looked up");
            return;
        }
        Sentences sentences = new Sentences(Files.readString(DOCUMENT));
        for (Edges.Test test : e.tests) {
            e.that("it asks for something: " + test.name(), test.asked > 0);
            e.that("the document says so: " + test.name(), sentences.has(test));
        }
        for (int promise = 0; promise <= 43; promise++) {
            e.that("promise " + promise + " stands in the document", sentences.byPromise.containsKey(promise));
        }
        sentences.eachIsNamed(e);
    }

    private Sentences(String document) {
        String told = document.substring(0, document.indexOf("## Not promised"))
                .replaceAll("(?s)## The public face.*?## Terms", "## Terms");
        int promise = 0;
        for (String part : told.split("(?m)^#+ ")) {
            Matcher heading = Pattern.compile("^Promise (\\d+): .*").matcher(part);
            if (heading.find()) {
                promise = Integer.parseInt(heading.group(1));
            }
            String body = part.contains("\n") ? part.substring(part.indexOf('\n')) : "";
            List<String> list = byPromise.computeIfAbsent(promise, p -> new ArrayList<>());
            for (String paragraph : body.replaceAll("```\\w*", "\n\n").split("\n\\s*\n|\n(?=   [A-Z])")) {
                addSentences(list, paragraph);
            }
        }
    }

    private static void addSentences(List<String> list, String paragraph) {
        String line = oneLine(paragraph).replaceAll("^`[^`]*`: ", "").replaceAll("^\\d\\. ", "");
        // ".. HOURS" ends no sentence.
        for (String sentence : line.split("(?<=[^.]\\.\\)?) (?=[A-Z(])")) {
            if (!sentence.isEmpty()) {
                list.add(sentence);
            }
        }
    }

    private static String oneLine(String text) {
        return text.replaceAll("\\s+", " ").trim();
    }

    private boolean has(Edges.Test test) {
        for (int promise : new int[] {test.promise, 0}) {
            for (String sentence : byPromise.getOrDefault(promise, List.of())) {
                if (sentence.contains(test.sentence)) {
                    return true;
                }
            }
        }
        return false;
    }

    private void eachIsNamed(Edges e) {
        for (Map.Entry<Integer, List<String>> entry : byPromise.entrySet()) {
            for (String sentence : entry.getValue()) {
                boolean named = entry.getKey() == 0 && hasNoCase(sentence);
                for (Edges.Test test : e.tests) {
                    named |= (entry.getKey() == 0 || test.promise == entry.getKey())
                            && sentence.contains(test.sentence);
                }
                e.that("a test names, of " + entry.getKey() + ": " + sentence, named);
            }
        }
    }

    private static boolean hasNoCase(String sentence) {
        for (String start : WITHOUT_A_CASE) {
            if (sentence.startsWith(start)) {
                return true;
            }
        }
        return false;
    }
}
