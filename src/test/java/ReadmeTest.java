import java.io.IOException;
import java.nio.file.Files;
import java.nio.file.Path;
import java.util.List;

/** The example in README.md: each call of it stands there with the answer that it has. */
public final class ReadmeTest {
    private static final Due due = new Due();
    private static List<String> lines;
    private static int calls = 0;

    public static void main(String[] args) throws IOException {
        lines = Files.readAllLines(Path.of("README.md"));
        due.by("README.md: Use");
        FarCells x = new FarCells(0, 0, 0);
        said("FarCells x = new FarCells(0, 0, 0);", x.count(1), " nodes, 1 processor each, room for 4 pages each");
        due.is("processors", x.count(2), 1);
        due.is("room", x.count(3), 4);
        int page = x.page(0);
        said("int page = x.page(0);", page, ": a plain page");
        int near = x.thread(0);
        said("int near = x.thread(0);", near, ": on node 0");
        int away = x.thread(1);
        said("int away = x.thread(1);", away, ": on node 1");
        said("x.access(near, page, 0, true, 5);", x.access(near, page, 0, true, 5), ": writes 5 into cell 0");
        said("x.access(away, page, 0, false, 0);", x.access(away, page, 0, false, 0), ": reads it from afar");
        said("x.run(5);", x.run(5), ": both went");
        said("x.read(away);", x.read(away), "");
        said("x.about(away, 6);", x.about(away, 6), ": 1, and twice 2 for the way");
        said("x.gap(page);", x.gap(page), ": what it cost above 1 for each");
        said("x.best(page);", x.best(page), ": what it would have cost at best");
        said("x.rule(3, 0, 1);", x.rule(3, 0, 1), ": there is no such rule");
        due.is("lines of the example", linesOfExample(), calls);
        due.end();
    }

    private static void said(String call, int answer, String words) {
        calls++;
        String line = String.format("%-40s // %d%s", call, answer, words);
        if (!lines.contains(line)) {
            due.tell("README.md has not the line " + line);
        }
    }

    private static int linesOfExample() {
        int begin = lines.indexOf("```java");
        int end = lines.indexOf("```");
        return end - begin - 1;
    }
}
