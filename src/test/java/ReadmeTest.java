import java.io.IOException;
import java.nio.file.Files;
import java.nio.file.Path;
import java.util.List;

/** The example of README.md: what each of its calls answers stands behind it there. */
public final class ReadmeTest {
    private static final String ANSWER = "// ";

    private final Check check = new Check();
    private final List<String> lines;
    private int reached = 0;

    private ReadmeTest(List<String> lines) {
        this.lines = lines;
    }

    public static void main(String[] args) throws IOException {
        new ReadmeTest(Files.readAllLines(Path.of("README.md"))).followExample();
    }

    private void followExample() {
        FoldedStrand strand = Check.strand(quoted());
        told("strand.most();", strand.most());
        told("strand.least();", strand.least());
        told("strand.ways();", strand.ways());
        told("strand.list(60);", strand.list(60));
        told("strand.energyOf(0);", strand.energyOf(0));
        told("strand.at(0, 0);", strand.at(0, 0));
        told("strand.take(0);", strand.take(0));
        told("strand.partner(0);", strand.partner(0));
        told("strand.loop(0);", strand.loop(0));
        for (char c : quoted().toCharArray()) {
            check.due("type", strand.type(c), true);
        }
        told("strand.read();", strand.read());
        told("strand.energy();", strand.energy());
        told("strand.clear();", strand.clear());
        check.finish();
    }

    /** The text in quotes of the next line that has one and goes over its characters. */
    private String quoted() {
        return next("for (char c : \"").split("\"")[1];
    }

    /** The next line with an answer is that of this call, and tells this answer. */
    private void told(String call, int got) {
        String line = next("strand.");
        check.due("call in README.md", line.substring(0, line.indexOf(';') + 1), call);
        check.due(call, Integer.toString(got), line.split(ANSWER)[1].split("[^-0-9]")[0]);
    }

    private String next(String beginning) {
        while (reached < lines.size()) {
            String line = lines.get(reached);
            reached++;
            if (line.startsWith(beginning)) {
                return line;
            }
        }
        throw new IllegalStateException("README.md has no further line with " + beginning);
    }
}
