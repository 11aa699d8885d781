import java.io.IOException;
import java.nio.file.Files;
import java.nio.file.Path;
import java.util.ArrayList;
import java.util.List;

/** The example of README.md answers what is written behind its lines. */
public final class ReadmeTest {
    private static final List<String> TOLD = new ArrayList<>();
    private static int next;

    public static void main(String[] args) throws IOException {
        readExample();
        runExample();
        Check.same("lines of the example", next, TOLD.size());
        Check.finish("ReadmeTest");
    }

    /** Takes the lines of the first piece of Java, each as "call // answer". */
    private static void readExample() throws IOException {
        String text = Files.readString(Path.of("README.md"));
        int start = text.indexOf("```java\n");
        int end = text.indexOf("```", start + 3);
        Check.same("an example is there", start >= 0 && end > start, true);
        for (String line : text.substring(start, end).split("\n")) {
            if (line.contains("grid.")) {
                TOLD.add(line.replaceAll("^.*?(?=grid\\.)", "").replaceAll(";\\s+//", " //"));
            }
        }
    }

    private static void line(String call, Object answer) {
        String told = next < TOLD.size() ? TOLD.get(next) : "nothing";
        Check.same("README line", told, call + " // " + answer);
        next++;
    }

    private static void runExample() {
        Islandgrid grid = new Islandgrid();
        line("grid.addSite()", grid.addSite());
        line("grid.addSite()", grid.addSite());
        line("grid.addLine(site, other)", grid.addLine(0, 1));
        line("grid.close(line)", grid.close(0));
        line("grid.addGenerator(site, 10, 50, 1, 200)", grid.addGenerator(0, 10, 50, 1, 200));
        line("grid.addStore(other, 40, 15)", grid.addStore(1, 40, 15));
        line("grid.addLoad(other, 25, 1)", grid.addLoad(1, 25, 1));
        line("grid.addLoad(other, 30, 2)", grid.addLoad(1, 30, 2));
        line("grid.start(generator)", grid.start(0));
        line("grid.bound(other)", grid.bound(1));
        line("grid.pass(1)", grid.pass(1));
        line("grid.given(generator)", grid.given(0));
        line("grid.isLit(second)", grid.isLit(1));
        line("grid.waits(second)", grid.waits(1));
        line("grid.tie()", grid.tie());
        line("grid.pass(3)", grid.pass(3));
        line("grid.grid()", grid.grid());
        line("grid.isBalanced()", grid.isBalanced());
    }
}
