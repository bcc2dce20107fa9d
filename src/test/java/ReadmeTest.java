import java.io.IOException;
import java.nio.file.Files;
import java.nio.file.Path;
import java.util.List;

/** The example of README.md (promises 4, 6, 7, 9 to 11, 13, 15 to 17, 21, 22): what it says behind a call is due. */
public final class ReadmeTest {
    private final Check check = new Check("ReadmeTest");
    private final List<String> readme;
    private final SwarmLine line = new SwarmLine();

    private ReadmeTest(List<String> readme) {
        this.readme = readme;
    }

    public static void main(String[] args) throws IOException {
        ReadmeTest test = new ReadmeTest(Files.readAllLines(Path.of("README.md")));
        test.ahead();
        test.aCase();
        test.check.finish();
    }

    private void ahead() {
        for (int day = 0; day < 3; day++) {
            line.weather(day, 20, 0);
        }
        told("line.hive(10, 10, 20000, 1000, 3);", line.hive(10, 10, 20000, 1000, 3));
        told("line.keeper(9, 9, 2, 9, 10, 0, 23);", line.keeper(9, 9, 2, 9, 10, 0, 23));
        tell("else: 0");
        told("line.rota();", line.rota());
        told("line.hours(60);", line.hours(60));
        told("line.count(7);", line.count(7));
    }

    private void aCase() {
        tell("at 8 13, high 3, since 60");
        int number = line.call();
        told("int number = line.call();", number);
        told("line.left(number, true);", line.left(number, true));
        told("line.left(number, false);", line.left(number, false));
        told("line.most();", line.most());
        told("line.send(number);", line.send(number));
        told("line.hours(1);", line.hours(1));
        told("line.matter(number, 0);", line.matter(number, 0));
        told("line.matter(number, 9);", line.matter(number, 9));
        told("line.origin(0);", line.origin(0));
    }

    private void tell(String text) {
        String call = "tell(line, \"" + text + "\");";
        check.due("README.md has " + call, true, readme.contains(call));
        Check.tape(line, text);
    }

    private void told(String call, int got) {
        for (String row : readme) {
            if (row.startsWith(call + " ")) {
                String answer = row.substring(row.indexOf("// ") + 3, row.indexOf(':'));
                check.due(call, Integer.parseInt(answer), got);
                return;
            }
        }
        check.tell("README.md does not have " + call);
    }
}
