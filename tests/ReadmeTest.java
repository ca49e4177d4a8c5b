import java.io.IOException;
import java.lang.reflect.Method;
import java.lang.reflect.Modifier;
import java.nio.charset.StandardCharsets;
import java.nio.file.Files;
import java.nio.file.Path;
import java.util.List;

/** What README.md shows of the class holds, and no call is left out of it. */
public final class ReadmeTest {
    private static final String NOT_THERE = "not there";

    private final Due due = new Due();
    private final List<String> lines;
    private int shown = 0;

    private ReadmeTest() throws IOException {
        lines = Files.readAllLines(Path.of("README.md"), StandardCharsets.UTF_8);
    }

    public static void main(String[] arguments) throws IOException {
        ReadmeTest test = new ReadmeTest();
        test.theExampleAnswersAsShown();
        test.everyCallIsNamed();
        test.theTestsAreShown();
        test.due.finish();
    }

    private void theExampleAnswersAsShown() {
        due.about("the example");
        FourRods table = new FourRods();
        shows("table.hold(5, true);", table.hold(5, true));
        shows("table.ball(5, 1);", table.ball(5, 1));
        shows("table.ends(1);", table.ends(1));
        shows("table.goesIn();", table.goesIn());
        shows("table.stand(0);", table.stand(0));
        shows("table.stand(1);", table.stand(1));
        due.holds("an evening is said", has("for (char sign : \"s>1\".toCharArray()) table.say(sign);"));
        for (char sign : "s>1".toCharArray()) table.say(sign);
        shows("table.judge(0);", table.judge(0));
        shows("table.then(3);", table.then(3));
        shows("table.done();", table.done());
        shows("table.told(2);", table.told(2));
        shows("table.slide(8, 0);", table.slide(8, 0));
        shows("table.race(8, 8, 7, 0);", table.race(8, 8, 7, 0));
        shows("table.race(8, 8, 7, 1);", table.race(8, 8, 7, 1));
        due.is("calls in README.md", lines.stream().filter(line -> line.startsWith("table.")).count(), shown);
    }

    private void everyCallIsNamed() {
        due.about("the calls");
        for (Method method : FourRods.class.getDeclaredMethods()) {
            if (Modifier.isPublic(method.getModifiers())) {
                due.holds(method.getName() + " is named", has("`" + method.getName() + "`"));
            }
        }
    }

    private void theTestsAreShown() {
        due.about("the tests");
        due.holds("all at once", lines.contains(".ci/run"));
        due.holds("a single one", has("java -cp out FaceTest"));
        due.holds("that one is there", Files.exists(Path.of("tests", "FaceTest.java")));
    }

    private void shows(String call, long answer) {
        shown++;
        due.same(call, answerShown(call), toldInWords(answer));
    }

    /** The first word of the comment behind a call, without its colon. */
    private String answerShown(String call) {
        for (String line : lines) {
            int comment = line.indexOf("// ");
            if (line.startsWith(call) && comment >= 0) return line.substring(comment + 3).split("[ :]")[0];
        }
        return NOT_THERE;
    }

    private static String toldInWords(long answer) {
        if (answer == FourRods.NONE) return "NONE";
        if (answer == FourRods.UNKNOWN) return "UNKNOWN";
        return Long.toString(answer);
    }

    private boolean has(String text) {
        return lines.stream().anyMatch(line -> line.contains(text));
    }
}
