import java.nio.file.Files;
import java.nio.file.Path;
import java.util.ArrayList;
import java.util.List;
import java.util.regex.Matcher;
import java.util.regex.Pattern;

/** README.md's examples, in their order: each call answers what stands behind it. */
public final class ReadmeTest {
    private static final Pattern EXAMPLE = Pattern.compile("(\\S.*;) +// ([^:]+): .+");

    private final List<String> examples = new ArrayList<>();
    private int next = 0;

    public static void main(String[] args) throws Exception {
        new ReadmeTest().go(Files.readAllLines(Path.of("README.md")));
        Check.end();
    }

    private void go(List<String> lines) {
        for (String line : lines) {
            Matcher m = EXAMPLE.matcher(line);
            if (m.matches()) {
                examples.add(m.group(1) + " answers " + m.group(2));
            }
        }
        TagWindows x = new TagWindows();
        work(x);
        texts(x);
        history(x);
        Check.due("examples of README.md", examples.size(), next);
    }

    private void work(TagWindows x) {
        int pump = x.addAsset(10, 100);
        told("int pump = x.addAsset(10, 100);", pump);
        int crew = x.addCrew(3, 1);
        told("int crew = x.addCrew(3, 1);", crew);
        int task = x.addTask(pump, 0, 2, 1, 3, 0);
        told("int task = x.addTask(pump, 0, 2, 1, 3, 0);", task);
        told("x.run(pump);", x.run(pump));
        told("x.pass(2);", x.pass(2));
        told("x.real(pump, 0);", x.real(pump, 0));
        told("x.hang(task, crew);", x.hang(task, crew));
        told("x.stop(pump);", x.stop(pump));
        told("x.hang(task, crew);", x.hang(task, crew));
        told("x.begin(task);", x.begin(task));
        told("x.pass(3);", x.pass(3));
        told("x.lift(task, crew);", x.lift(task, crew));
        told("x.task(task, 1);", x.task(task, 1));
        told("x.asset(pump, 6);", x.asset(pump, 6));
    }

    private void texts(TagWindows x) {
        for (char c : "r0;p2;s0".toCharArray()) {
            x.type(c);
        }
        told("x.perform();", x.perform());
        told("x.type(';');", x.type(';'));
        told("x.perform();", x.perform());
        told("x.clearText();", x.clearText());
    }

    private void history(TagWindows x) {
        told("x.keep();", x.keep());
        told("x.pass(10);", x.pass(10));
        told("x.undo();", x.undo());
        told("x.count(0);", x.count(0));
        told("x.pass(20);", x.pass(20));
        told("x.restore();", x.restore());
    }

    private void told(String call, Object answer) {
        String example = next < examples.size() ? examples.get(next) : "";
        next++;
        Check.due("README.md, example " + next, call + " answers " + answer, example);
    }
}
