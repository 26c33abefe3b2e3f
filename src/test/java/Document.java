import java.io.IOException;
import java.io.UncheckedIOException;
import java.nio.file.Files;
import java.nio.file.Path;
import java.util.ArrayList;
import java.util.List;
import java.util.TreeMap;
import java.util.regex.Matcher;
import java.util.regex.Pattern;

/** The lines of ../shared/DOC.md, each with the promise that it is of. */
final class Document {
    private static final Pattern PROMISE = Pattern.compile("## Promise (\\d+): .*");
    private static final Pattern CALL = Pattern.compile("`[^`]*\\([^`]*\\)[^`]*`: (.*)");
    private static final String END = "## Not promised";

    private final TreeMap<Integer, List<String>> lines = new TreeMap<>();

    static Document read() {
        Document document = new Document();
        try {
            document.sort(Files.readAllLines(Path.of("..", "shared", "DOC.md")));
        } catch (IOException e) {
            throw new UncheckedIOException(e);
        }
        return document;
    }

    private void sort(List<String> all) {
        int promise = Edges.TERMS;
        for (String line : all) {
            if (line.equals(END)) {
                return;
            }
            Matcher heading = PROMISE.matcher(line);
            if (heading.matches()) {
                promise = Integer.parseInt(heading.group(1));
            }
            lines.computeIfAbsent(promise, number -> new ArrayList<>()).add(line);
        }
    }

    int promises() {
        return lines.lastKey();
    }

    boolean says(int promise, String sentence) {
        return lines.getOrDefault(promise, List.of()).stream()
                .anyMatch(line -> line.contains(sentence));
    }

    /** What the document says behind the call that a promise is of: what the call does. */
    String purpose(int promise) {
        for (String line : lines.getOrDefault(promise, List.of())) {
            Matcher call = CALL.matcher(line);
            if (call.matches()) {
                return call.group(1);
            }
        }
        throw new IllegalStateException("promise " + promise + " is of no call");
    }

    /** The head of the class and the declarations in it, each without a semicolon. */
    List<String> face() {
        List<String> face = new ArrayList<>();
        for (String line : lines.getOrDefault(Edges.TERMS, List.of())) {
            if (line.strip().startsWith("public ")) {
                face.add(line.strip().replace(";", ""));
            }
        }
        return face;
    }

    /** The sentences of a promise that name a boundary: its exceptions, ranges, and special cases. */
    List<String> edges(int promise) {
        List<String> edges = new ArrayList<>();
        for (String line : lines.getOrDefault(promise, List.of())) {
            boolean hasNumber = line.matches(".*\\d.*");
            if (line.startsWith("Throws ")) {
                edges.add(line);
            } else if (hasNumber && line.startsWith("Returns ")) {
                edges.add(line);
            } else if (hasNumber && line.startsWith("- `")) {
                edges.add(line.substring(2));
            }
        }
        return edges;
    }

    /** The sentences of the terms, all of them. */
    List<String> terms() {
        List<String> sentences = new ArrayList<>();
        boolean inTerms = false;
        for (String line : lines.getOrDefault(Edges.TERMS, List.of())) {
            inTerms = inTerms || line.equals("## Terms");
            if (inTerms && !line.startsWith("##") && !line.startsWith("Ahead of the calls")) {
                for (String sentence : line.split("(?<=\\.) ")) {
                    // A paragraph begins with a word that says what it is about.
                    if (sentence.contains(" ")) {
                        sentences.add(sentence);
                    }
                }
            }
        }
        return sentences;
    }
}
