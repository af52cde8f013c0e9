import java.io.IOException;
import java.nio.file.Files;
import java.nio.file.Path;
import java.util.ArrayList;
import java.util.List;
import java.util.regex.Matcher;
import java.util.regex.Pattern;

/** README.md's examples: every call there that has a number behind it answers that number. */
public final class ReadmeTest {
    private static final Pattern CALL = Pattern.compile("\\w+\\.(\\w+)\\((-?\\d*)(?:, (-?\\d+))?\\);\\s*// (-?\\d+)\\b.*");
    private static final Pattern POKE = Pattern.compile("\\w+\\.poke\\((\\d+), \\w+\\.word\\((\\d+), (-?\\d+)\\)\\);.*");
    private static final Pattern NEW = Pattern.compile("TurnTasks \\w+ = new TurnTasks\\(\\);");

    public static void main(String[] args) throws IOException {
        List<List<String>> examples = examples(Files.readAllLines(Path.of("README.md")));
        Check.due("examples in README.md", examples.size(), 2);
        int answers = 0;
        for (List<String> example : examples) {
            answers += play(example);
        }
        Check.due("calls with their answers in README.md", answers, 14);
        Check.finish();
    }

    private static List<List<String>> examples(List<String> lines) {
        List<List<String>> all = new ArrayList<>();
        boolean inside = false;
        for (String line : lines) {
            if (line.equals("```java")) {
                all.add(new ArrayList<>());
                inside = true;
            } else if (line.startsWith("```")) {
                inside = false;
            } else if (inside) {
                all.get(all.size() - 1).add(line);
            }
        }
        return all;
    }

    /** How many of the example's calls have their answers beside them. */
    private static int play(List<String> example) {
        TurnTasks machine = new TurnTasks();
        Check.due("README.md makes an object: " + example.get(0), NEW.matcher(example.get(0)).matches() ? 1 : 0, 1);
        int answers = 0;
        for (String line : example.subList(1, example.size())) {
            Matcher poke = POKE.matcher(line);
            Matcher other = CALL.matcher(line);
            if (poke.matches()) {
                machine.poke(number(poke, 1), machine.word(number(poke, 2), number(poke, 3)));
            } else if (other.matches()) {
                Check.due("README.md: " + line, answer(machine, other), number(other, 4));
                answers++;
            } else {
                Check.due("README.md has a line that this test can't read: " + line, 1, 0);
            }
        }
        return answers;
    }

    private static int number(Matcher found, int group) {
        String text = found.group(group);
        return text == null || text.isEmpty() ? 0 : Integer.parseInt(text);
    }

    private static int answer(TurnTasks machine, Matcher call) {
        int a = number(call, 2);
        int b = number(call, 3);
        switch (call.group(1)) {
            case "spawn": return machine.spawn(a, b);
            case "put": return machine.put(a, b);
            case "run": return machine.run(a);
            case "latest": return machine.latest();
            case "state": return machine.state(a);
            case "about": return machine.about(a, b);
            case "record": return machine.record(a);
            default: throw new IllegalArgumentException(call.group());
        }
    }
}
