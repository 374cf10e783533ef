import java.io.IOException;
import java.nio.file.Files;
import java.nio.file.Path;
import java.util.ArrayList;
import java.util.List;

/** The run that README.md shows under "Use" answers what is written behind its calls. */
public final class ReadmeTest {
    private static final Path README = Path.of("README.md");
    private static final Checks CHECKS = new Checks();

    private ReadmeTest() {
    }

    public static void main(String[] args) throws IOException {
        HeapPress heap = new HeapPress();
        List<String> lines = new ArrayList<>(List.of("HeapPress heap = new HeapPress();"));
        answers(lines, "heap.make(0, true, 2);", heap.make(0, true, 2), 0);
        answers(lines, "heap.make(1, false, 3);", heap.make(1, false, 3), 3);
        heap.put(1, 0, 42L);
        lines.add("heap.put(1, 0, 42L);");
        heap.link(0, 1, 1);
        lines.add("heap.link(0, 1, 1);");
        answers(lines, "heap.weak(2, 1);", heap.weak(2, 1), 7);
        heap.drop(1);
        lines.add("heap.drop(1);");
        answers(lines, "heap.collect();", heap.collect(), 0);
        heap.follow(3, 2, 0);
        lines.add("heap.follow(3, 2, 0);");
        answers(lines, "heap.get(3, 0);", heap.get(3, 0), 42);
        heap.drop(0);
        lines.add("heap.drop(0);");
        heap.drop(3);
        lines.add("heap.drop(3);");
        answers(lines, "heap.collect();", heap.collect(), 2);
        answers(lines, "heap.state(2, 1);", heap.state(2, 1), 0);
        heap.follow(3, 2, 0);
        lines.add("heap.follow(3, 2, 0);");
        answers(lines, "heap.state(3, 0);", heap.state(3, 0), 0);
        CHECKS.due("the run in README.md", String.join("\n", shown()), String.join("\n", lines));
        CHECKS.end();
    }

    private static void answers(List<String> lines, String call, long got, long want) {
        CHECKS.due(call, got, want);
        lines.add(call + " // " + want);
    }

    /** The lines of the example, with what a comment tells of the answer and without the rest of it. */
    private static List<String> shown() throws IOException {
        List<String> all = Files.readAllLines(README);
        int start = all.indexOf("```java") + 1;
        List<String> example = new ArrayList<>();
        for (int k = start; k < all.size() && !all.get(k).equals("```"); k++) {
            example.add(callAndAnswer(all.get(k)));
        }
        return example;
    }

    private static String callAndAnswer(String line) {
        String[] parts = line.split(" *// ", 2);
        String answer = parts.length == 2 ? parts[1].split(":", 2)[0] : "";
        return answer.matches("-?\\d+") ? parts[0] + " // " + answer : parts[0];
    }
}
