import java.io.IOException;
import java.nio.file.Files;
import java.nio.file.Path;
import java.util.ArrayList;
import java.util.List;
import java.util.regex.Matcher;
import java.util.regex.Pattern;

/** The example in README.md answers what its comments say; .ci/run starts this in the project's folder. */
public final class ReadmeTest {
    private static final Pattern LINE = Pattern.compile("warehouse\\.(\\w+)\\(([^)]*)\\); +// (-?\\d+): .*");

    public static void main(String[] args) throws IOException {
        Due due = new Due("ReadmeTest");
        PromiseFlows warehouse = new PromiseFlows();
        int calls = 0;
        for (String line : example()) {
            Matcher call = LINE.matcher(line);
            if (call.matches()) {
                calls++;
                due.same(line, call.group(3),
                        Due.outcome(() -> answer(warehouse, call.group(1), call.group(2).split(", "))));
            } else {
                due.same("a line without an answer", "PromiseFlows warehouse = new PromiseFlows();", line);
            }
        }
        due.same("calls in the example", "18", Integer.toString(calls));
        due.end();
    }

    private static List<String> example() throws IOException {
        List<String> lines = new ArrayList<>();
        boolean inside = false;
        for (String line : Files.readAllLines(Path.of("README.md"))) {
            if (line.startsWith("```")) {
                inside = line.equals("```java");
            } else if (inside) {
                lines.add(line);
            }
        }
        return lines;
    }

    private static int answer(PromiseFlows warehouse, String name, String[] with) {
        switch (name) {
            case "arrival": return warehouse.arrival(number(with, 0), number(with, 1), number(with, 2));
            case "change": return warehouse.change(number(with, 0), number(with, 1), number(with, 2));
            case "aside": return warehouse.aside(number(with, 0), number(with, 1));
            case "standIn": return warehouse.standIn(number(with, 0), number(with, 1), with[2].equals("true"));
            case "kit": return warehouse.kit(number(with, 0), number(with, 1), number(with, 2));
            case "order": return warehouse.order(number(with, 0), number(with, 1), number(with, 2), number(with, 3));
            case "close": return warehouse.close(number(with, 0));
            case "promise": return warehouse.promise(number(with, 0), number(with, 1));
            case "share": return warehouse.share(number(with, 0), number(with, 1));
            case "bars": return warehouse.bars(number(with, 0), number(with, 1), number(with, 2));
            case "flow": return warehouse.flow(number(with, 0), number(with, 1), number(with, 2));
            case "state": return warehouse.state(number(with, 0));
            case "left": return warehouse.left(number(with, 0));
            case "count": return warehouse.count(number(with, 0));
            default: throw new RuntimeException("no such call in the example: " + name);
        }
    }

    private static int number(String[] with, int i) {
        return Integer.parseInt(with[i]);
    }
}
