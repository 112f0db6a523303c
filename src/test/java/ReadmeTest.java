import java.io.IOException;
import java.nio.file.Files;
import java.nio.file.Path;
import java.util.List;

/** README.md shows calls with their answers, and names every test: both are to be as they stand. */
public final class ReadmeTest {
    private static final Check CHECK = new Check("ReadmeTest");

    public static void main(String[] args) throws IOException {
        List<String> readme = Files.readAllLines(Path.of("README.md"));
        exampleAnswersAsTold(readme);
        everyTestIsNamed(String.join("\n", readme));
        CHECK.end();
    }

    private static void exampleAnswersAsTold(List<String> readme) {
        GossipNodes x = new GossipNodes(3);
        told(readme, "GossipNodes x = new GossipNodes(3);", "nodes 0, 1, 2; none runs yet");
        CHECK.due("a fourth node", x.node(3, 0), -1);
        CHECK.due("runs", x.node(0, 0) + x.node(1, 0) + x.node(2, 0), 0);
        told(readme, "x.start(0, 0);", "true: node 0 begins alone");
        CHECK.due("start(0, 0)", x.start(0, 0), true);
        CHECK.due("alone", x.flight(), 0);
        told(readme, "x.start(1, 0);", "true: node 1 joins by node 0, a SYNC is on its way");
        CHECK.due("start(1, 0)", x.start(1, 0), true);
        CHECK.due("SYNC", x.message(0, 0), 6);
        told(readme, "x.ticks(2);", "2: SYNC and SYNCED have arrived");
        CHECK.due("ticks(2)", x.ticks(2), 2);
        told(readme, "x.view(1, 0, 0);", "1: node 1 has node 0 as ALIVE");
        CHECK.due("view(1, 0, 0)", x.view(1, 0, 0), 1);
        told(readme, "x.agreed();", "true: both know just each other");
        CHECK.due("agreed()", x.agreed(), true);
        told(readme, "x.crash(1);", "true: node 1 stops at once");
        CHECK.due("crash(1)", x.crash(1), true);
        told(readme, "x.ticks(40);", "1: its last PING; what is sent to it is lost");
        CHECK.due("ticks(40)", x.ticks(40), 1);
        told(readme, "x.view(0, 1, 0);", "3: node 0 has declared node 1 DEAD");
        CHECK.due("view(0, 1, 0)", x.view(0, 1, 0), 3);
    }

    private static void told(List<String> readme, String call, String answer) {
        boolean found = false;
        for (String line : readme) {
            found |= line.startsWith(call) && line.endsWith("// " + answer);
        }
        CHECK.due("README.md has \"" + call + "\" with \"" + answer + "\"", found, true);
    }

    private static void everyTestIsNamed(String readme) throws IOException {
        try (var files = Files.list(Path.of("src/test/java"))) {
            for (Path file : files.sorted().toList()) {
                String name = file.getFileName().toString().replace(".java", "");
                CHECK.due("README.md names " + name, readme.contains("`" + name + "`"), true);
            }
        }
    }
}
