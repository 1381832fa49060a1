import java.io.IOException;
import java.lang.reflect.Method;
import java.lang.reflect.Modifier;
import java.nio.file.Files;
import java.nio.file.Path;
import java.util.Arrays;
import java.util.List;

/** What README.md says of the calls: its example is followed here line by line. */
public final class ReadmeTest {
    private final Checks checks = new Checks();
    private final List<String> lines;

    private ReadmeTest(String text) {
        lines = Arrays.asList(text.split("\n"));
    }

    public static void main(String[] args) throws IOException {
        ReadmeTest test = new ReadmeTest(Files.readString(Path.of("README.md")));
        test.theExampleAnswersWhatItSays();
        test.theExampleHasNoOtherLines();
        test.theTablesHaveEveryCall();
        test.checks.finish();
    }

    private void theExampleAnswersWhatItSays() {
        RelaxedRadixVector x = new RelaxedRadixVector();
        int w = x.thaw(0);
        said("int w = x.thaw(0);", w);
        for (int i = 0; i < 8; i++) {
            said("x.push(w, i);", x.push(w, i));
        }
        said("x.freeze(w);", x.freeze(w));
        int v = x.insertAt(w, 5, 9);
        said("int v = x.insertAt(w, 5, 9);", v);
        said("x.versions();", x.versions());
        said("x.size(w);", x.size(w));
        said("x.size(v);", x.size(v));
        checks.dueElements("version 1", x, w, "0 1 2 3 4 5 6 7");
        checks.dueElements("version 2", x, v, "0 1 2 3 4 9 5 6 7");
        checks.dueShape("version 2", x, v, "3|423");
        said("x.get(v, 5);", x.get(v, 5));
        said("x.compare(w, v);", x.compare(w, v));
        said("x.height(v);", x.height(v));
        said("x.nodes(v);", x.nodes(v));
        said("x.row(v, 2, 0);", x.row(v, 2, 0));
        said("x.row(v, 1, 1);", x.row(v, 1, 1));
        said("x.probes(v, 6);", x.probes(v, 6));
        said("x.append(99, 1);", x.append(99, 1));
    }

    /** The line with the call has this answer first in its comment. */
    private void said(String call, Object answer) {
        String comment = "";
        for (String line : lines) {
            if (line.strip().startsWith(call + " ")) {
                comment = line.substring(line.indexOf("//") + 2).strip();
            }
        }
        checks.due("README.md's answer to " + call, comment.split(":")[0], "" + answer);
    }

    /** A call more in the example would be one that is not followed above. */
    private void theExampleHasNoOtherLines() {
        int start = lines.indexOf("```java");
        int answers = 0;
        for (int n = start + 1; start >= 0 && !lines.get(n).equals("```"); n++) {
            answers += lines.get(n).contains("//") ? 1 : 0;
        }
        checks.due("lines of the example that tell an answer", answers, 15);
    }

    private void theTablesHaveEveryCall() {
        for (Method method : RelaxedRadixVector.class.getDeclaredMethods()) {
            if (Modifier.isPublic(method.getModifiers())) {
                String start = "| `" + method.getName() + "(";
                long rows = lines.stream().filter(line -> line.startsWith(start)).count();
                checks.due("rows of " + method.getName(), rows, 1);
            }
        }
    }
}
