import java.io.IOException;
import java.nio.file.Files;
import java.nio.file.Path;
import java.util.List;

/** The example of README.md: its lines stand there, and give the answers that their comments tell. */
public final class ReadmeTest {
    private static final Due due = new Due("ReadmeTest");
    private static List<String> lines;

    private ReadmeTest() {
    }

    public static void main(String[] arguments) throws IOException {
        lines = Files.readAllLines(Path.of("README.md"));
        due.begin("the example of README.md");
        example();
        due.end();
    }

    private static void example() {
        PlanShelves x = new PlanShelves();
        line("x.row(1, 2, 0, 0, 50);", x.row(1, 2, 0, 0, 50));
        line("x.row(2, 3, 0, 0, 45);", x.row(2, 3, 0, 0, 45));
        line("x.index(0, 1);", x.index(0, 1));
        line("x.analyse();", x.analyse());
        due.is("README.md, asked for the text of the example,", 1, tells("for (char c : \"a=?&b<?\".toCharArray()) {"));
        for (char c : "a=?&b<?".toCharArray()) {
            x.type(c);
        }
        int s = x.statement();
        line("int s = x.statement();", s);
        line("int weights = x.run(s, 1, 3, 0, 0);", x.run(s, 1, 3, 0, 0));
        line("int way = x.latest(2);", x.latest(2));
        line("int best = x.bestCost();", x.bestCost());
        line("x.undo();", x.undo());
        line("int none = x.latest(2);", x.latest(2));
    }

    private static int tells(String start) {
        return lines.stream().anyMatch(line -> line.startsWith(start)) ? 1 : 0;
    }

    /** The comment behind a line begins with the answer, as a number or as the name of an error. */
    private static void line(String call, int got) {
        String comment = lines.stream().filter(line -> line.startsWith(call + " ")).findFirst()
                .map(line -> line.substring(line.indexOf("// ") + 3)).orElse("no such line in README.md");
        String answer = got == PlanShelves.NOT_FOUND ? "NOT_FOUND" : String.valueOf(got);
        String told = comment.replaceFirst(":.*", "");
        due.is(call + " gives " + answer + ", README.md tells " + told + ", which", 1, told.equals(answer) ? 1 : 0);
    }
}
