import java.io.IOException;
import java.nio.file.Files;
import java.nio.file.Path;
import java.util.regex.Pattern;

/** The calls of README.md have the answers that it tells. */
public final class ReadmeTest {
    private final String readme;

    private ReadmeTest(String readme) {
        this.readme = readme;
    }

    public static void main(String[] args) throws IOException {
        ReadmeTest test = new ReadmeTest(Files.readString(Path.of("README.md")));
        test.use();
        test.refusals();
        test.text();
        Check.end();
    }

    private void use() {
        OnTheRoof x = new OnTheRoof();
        told("bend(0, 5, 100, 10)", x.bend(0, 5, 100, 10));
        told("bend(1, 2, 250, 500)", x.bend(1, 2, 250, 500));
        told("ask(0, 4)", x.ask(0, 4));
        told("sign(0, true, 80)", x.sign(0, true, 80));
        told("likely(1)", x.likely(1));
        told("next()", x.next());
        told("best(60, -1)", x.best(60, -1));
        told("best(60, 0)", x.best(60, 0));
    }

    private void refusals() {
        OnTheRoof x = new OnTheRoof();
        x.bend(0, 5, 100, 10);
        x.bend(1, 2, 250, 500);
        told("bend(9, 0, 1, 0)", x.bend(9, 0, 1, 0));
        told("weight(2)", x.weight(2));
        told("judge(0, 0)", x.judge(0, 0));
        told("status(12)", x.status(12));
    }

    private void text() {
        OnTheRoof x = new OnTheRoof();
        for (char letter : "pace 4; pace 0".toCharArray()) {
            x.feed(letter);
        }
        told("way()", x.way());
        Check.due("THE TAPE's size", x.status(8), 0);
        Check.due("BAD", x.status(12), 1);
    }

    private void told(String call, int answer) {
        Pattern line = Pattern.compile("^x\\." + Pattern.quote(call) + "; +// " + answer + "[:,]", Pattern.MULTILINE);
        Check.that("README.md tells that " + call + " answers " + answer, line.matcher(readme).find());
    }
}
