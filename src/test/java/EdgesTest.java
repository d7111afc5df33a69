import java.io.IOException;
import java.nio.file.Files;
import java.nio.file.Path;
import java.util.ArrayList;
import java.util.List;
import java.util.stream.Collectors;
import java.util.stream.Stream;

/**
 * The cases under src/test/edges: each quotes a sentence of the document and
 * tells calls at its edges with the answers that are due. Every sentence of the
 * document must be quoted, if only to say why it has no test of its own.
 */
public final class EdgesTest {
    private static final Path CASES = Path.of("src/test/edges");
    private static final Path DOCUMENT = Path.of("../shared/DOC.md");

    private static Document document;
    private static int cases = 0;

    public static void main(String[] args) throws IOException {
        Due.mustEnd();
        if (Files.exists(DOCUMENT)) {
            document = new Document(Files.readString(DOCUMENT));
        } else {
            System.out.println(DOCUMENT + " is not here: what the cases quote can't be looked up");
        }
        for (Path file : files()) {
            readCases(file);
        }
        for (String sentence : document == null ? List.<String>of() : document.untested()) {
            Due.is("the sentence has no test: " + sentence, 0, 1);
        }
        System.out.println(cases + " cases");
        Due.end();
    }

    private static List<Path> files() throws IOException {
        try (Stream<Path> files = Files.list(CASES)) {
            return files.filter(file -> file.toString().endsWith(".txt")).sorted().collect(Collectors.toList());
        }
    }

    private static void readCases(Path file) throws IOException {
        String head = null;
        List<String> lines = new ArrayList<>();
        for (String line : Files.readAllLines(file)) {
            if (line.startsWith("== ")) {
                runCase(file, head, lines);
                head = line.substring(3);
                lines.clear();
            } else if (!line.isBlank() && !line.startsWith("#")) {
                lines.add(line.trim());
            }
        }
        runCase(file, head, lines);
    }

    private static void runCase(Path file, String head, List<String> lines) {
        if (head == null) {
            return;
        }
        cases++;
        String[] parts = head.split(": ", 2);
        String of = file.getFileName() + ", " + head;
        if (document != null && !document.quotes(parts[0], parts[1])) {
            Due.is(of + ": the document has no such words", 0, 1);
        }
        if (lines.isEmpty()) {
            Due.is(of + ": the case has no line", 0, 1);
        } else if (lines.contains("each")) {
            runEach(of, lines);
        } else if (!lines.get(0).startsWith("no test: ")) {
            run(of, lines);
        }
    }

    /** The lines behind "each" are tried one by one, and all in one run, with the others around them. */
    private static void runEach(String of, List<String> lines) {
        int each = lines.indexOf("each");
        int then = lines.indexOf("then");
        List<String> before = lines.subList(0, each);
        List<String> behind = lines.subList(then + 1, lines.size());
        List<String> all = lines.subList(each + 1, then);
        for (String line : all) {
            run(of + " (" + line + ")", joined(before, List.of(line), behind));
        }
        run(of + " (all of them)", joined(before, all, behind));
    }

    private static List<String> joined(List<String> before, List<String> between, List<String> behind) {
        List<String> lines = new ArrayList<>(before);
        lines.addAll(between);
        lines.addAll(behind);
        return lines;
    }

    private static void run(String of, List<String> lines) {
        Calls calls = new Calls(of);
        for (String line : lines) {
            try {
                calls.line(line);
            } catch (RuntimeException thrown) {
                Due.is(of + ": " + line + ": " + thrown, 0, 1);
                return;
            }
        }
    }
}
