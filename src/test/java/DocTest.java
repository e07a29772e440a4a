import java.io.IOException;
import java.nio.file.Files;
import java.nio.file.Path;
import java.util.ArrayList;
import java.util.Arrays;
import java.util.List;
import java.util.regex.Matcher;
import java.util.regex.Pattern;
import java.util.stream.Stream;

/**
 * Each sentence of the document's terms and promises is quoted by a test (Check.about), and each quoted one stands in
 * the document: so none is left out, and a changed one is told.
 */
public final class DocTest {
    private static final Pattern QUOTE = Pattern.compile("\\.about\\(((?:\\s*\\+?\\s*\"[^\"]*\")+)\\s*\\)");
    private static final Pattern TEXT = Pattern.compile("\"([^\"]*)\"");
    private static final Check C = new Check("DocTest");

    public static void main(String[] args) throws IOException {
        Path project = Path.of(System.getProperty("project", "."));
        Path shared = project.resolve("../shared/DOC.md");
        if (!Files.isReadable(shared)) {
            System.out.println("DocTest: there is no " + shared + ", so no sentence is looked for");
            return;
        }
        String doc = sentencesOf(Files.readString(shared));
        boolean[] quoted = new boolean[doc.length()];
        for (String quote : quotesUnder(project.resolve("src/test/java"))) mark(doc, quote, quoted);
        tellWhatIsLeft(doc, quoted);
        C.end();
    }

    /** The words of the terms and promises, without headings, signatures and what the interface says between calls. */
    private static String sentencesOf(String whole) {
        int from = whole.indexOf("\n## Terms");
        int to = whole.indexOf("\n## Not promised");
        C.due("the document has terms and promises", from > 0 && to > from, true);
        StringBuilder words = new StringBuilder(intro(whole));
        for (String line : whole.substring(Math.max(from, 0), Math.max(from, to)).split("\n")) {
            boolean heading = line.startsWith("#") || line.startsWith("```") || line.startsWith("Ahead of the calls");
            if (!heading) words.append(' ').append(line.replaceFirst("^==== \\d\\. ", "").replaceFirst("^`[^`]*`: ", ""));
        }
        return plain(words.toString());
    }

    private static String intro(String whole) {
        int from = whole.indexOf("An object is used");
        int to = whole.indexOf("; what later calls answer is free");
        return from < 0 || to < from ? "" : whole.substring(from, to + 1);
    }

    private static String plain(String text) {
        return text.replaceAll("\\s+", " ").trim();
    }

    private static List<String> quotesUnder(Path tests) throws IOException {
        List<String> quotes = new ArrayList<>();
        try (Stream<Path> files = Files.list(tests)) {
            for (Path file : files.filter(f -> f.toString().endsWith("Test.java")).sorted().toList()) {
                Matcher m = QUOTE.matcher(Files.readString(file));
                while (m.find()) quotes.add(joined(m.group(1)));
            }
        }
        C.due("there are quotes", quotes.size() > 50, true);
        return quotes;
    }

    private static String joined(String literals) {
        StringBuilder b = new StringBuilder();
        Matcher m = TEXT.matcher(literals);
        while (m.find()) b.append(m.group(1));
        return plain(b.toString());
    }

    private static void mark(String doc, String quote, boolean[] quoted) {
        int at = doc.indexOf(quote);
        C.due("the document says: " + quote, at >= 0, true);
        while (at >= 0) {
            Arrays.fill(quoted, at, at + quote.length(), true);
            at = doc.indexOf(quote, at + 1);
        }
    }

    private static void tellWhatIsLeft(String doc, boolean[] quoted) {
        int from = 0;
        while (from < doc.length()) {
            int to = from;
            while (to < doc.length() && quoted[to] == quoted[from]) to++;
            String part = doc.substring(from, to);
            boolean left = !quoted[from] && part.matches(".*[A-Za-z0-9].*");
            C.due("no test is about: " + part.trim(), left, false);
            from = to;
        }
    }
}
