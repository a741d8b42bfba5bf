import java.io.IOException;
import java.io.UncheckedIOException;
import java.nio.file.Files;
import java.nio.file.Path;
import java.util.ArrayList;
import java.util.List;
import java.util.Map;
import java.util.TreeMap;
import java.util.regex.Matcher;
import java.util.regex.Pattern;

/**
 * DOC.md in its parts: the sections under "Terms" (-1 to -9) and the promises (1 to 55), each a row of statements.
 * A test quotes the statement that it looks at; a statement that no test has quoted is a fault.
 */
final class Doc {
    private static final class Statement {
        final String text;
        boolean isQuoted;

        Statement(String text) {
            this.text = text;
        }
    }

    private static final Map<Integer, List<Statement>> PARTS = new TreeMap<>();
    private static int answersAhead = -1;

    static {
        try {
            cut(Files.readString(Path.of("../shared/DOC.md")));
        } catch (IOException e) {
            throw new UncheckedIOException(e);
        }
    }

    private Doc() {
    }

    private static void cut(String doc) {
        Matcher heading = Pattern.compile("(?m)^(## .*|[1-9]\\. [A-Z][a-z, ]*)$").matcher(doc);
        int part = 0;
        int from = 0;
        while (heading.find()) {
            put(part, doc.substring(from, heading.start()));
            String title = heading.group();
            Matcher promise = Pattern.compile("## Promise (\\d+):.*").matcher(title);
            part = promise.matches() ? Integer.parseInt(promise.group(1)) : title.startsWith("## ") ? 0 : -(title.charAt(0) - '0');
            from = heading.end();
        }
    }

    private static void put(int part, String text) {
        if (part == 0) {
            return;
        }
        List<Statement> statements = PARTS.computeIfAbsent(part, p -> new ArrayList<>());
        String prose = text.replaceAll("(?s)```.*?```", " ");
        for (String block : prose.split("\n\\s*\n|\n(?=- )")) {
            String line = block.trim().replaceAll("\\s+", " ");
            // What the interface says ahead of its calls promises nothing.
            if (line.isEmpty() || line.startsWith("Ahead of the calls")) {
                continue;
            }
            for (String sentence : part < 0 ? line.split("(?<=[.;]) +") : new String[] {line}) {
                statements.add(new Statement(sentence));
            }
        }
    }

    /** The words of each must stand in some statement of the part, which the answers behind this look at. */
    static void quote(int part, String... words) {
        needAnswers();
        Check.promise = part;
        for (String word : words) {
            boolean isThere = false;
            for (Statement s : PARTS.getOrDefault(part, List.of())) {
                if (s.text.contains(word)) {
                    s.isQuoted = true;
                    isThere = true;
                }
            }
            if (!isThere) {
                Check.fault("the document does not say: " + word);
            }
        }
    }

    private static void needAnswers() {
        if (Check.answers == answersAhead) {
            Check.fault("no answer is looked at for the statement that was quoted last");
        }
        answersAhead = Check.answers;
    }

    /** The text of the statement of a promise that begins with some words; null if there is none. */
    static String statement(int part, String start) {
        for (Statement s : PARTS.getOrDefault(part, List.of())) {
            if (s.text.startsWith(start)) {
                return s.text;
            }
        }
        return null;
    }

    static void needAllQuoted() {
        needAnswers();
        for (Map.Entry<Integer, List<Statement>> part : PARTS.entrySet()) {
            Check.promise = part.getKey();
            for (Statement s : part.getValue()) {
                if (!s.isQuoted) {
                    Check.fault("no test quotes: " + s.text);
                }
            }
        }
        if (PARTS.size() != 64) {
            Check.fault("the document has other parts: " + PARTS.keySet());
        }
    }
}
