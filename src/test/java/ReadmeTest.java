import java.io.IOException;
import java.lang.reflect.Method;
import java.lang.reflect.Modifier;
import java.nio.file.DirectoryStream;
import java.nio.file.Files;
import java.nio.file.Path;
import java.util.ArrayList;
import java.util.List;

/** README.md says what is so: its examples run, and it names every call and every file of the tests. */
public final class ReadmeTest {
    private static final Path README = Path.of("README.md");
    private static final Path TESTS = Path.of("src/test/java");

    public static void main(String[] args) throws IOException {
        String readme = Files.readString(README);
        List<String> own = trimmed(Files.readAllLines(TESTS.resolve("ReadmeTest.java")));
        List<String> examples = examples(Files.readAllLines(README));
        Check.begin("the examples");
        Check.yes("there are some", !examples.isEmpty());
        Check.yes("this test runs them line by line", containsInOrder(own, examples));
        Check.part("the handshake where all goes well", ReadmeTest::allGoesWell);
        Check.part("the handshake whose HELLO is lost", ReadmeTest::theHelloIsLost);
        Check.begin("the calls");
        for (Method call : LossyHandshake.class.getDeclaredMethods()) {
            if (Modifier.isPublic(call.getModifiers())) {
                Check.yes(call.getName() + " is named", readme.contains("| `" + call.getName() + "("));
            }
        }
        Check.begin("the files of the tests");
        try (DirectoryStream<Path> files = Files.newDirectoryStream(TESTS, "*.java")) {
            for (Path file : files) {
                String name = file.getFileName().toString().replace(".java", "");
                Check.yes(name + " is named", readme.contains("`" + name + "`"));
            }
        }
        Check.end();
    }

    private static List<String> trimmed(List<String> lines) {
        List<String> trimmed = new ArrayList<>();
        for (String line : lines) {
            trimmed.add(line.trim());
        }
        return trimmed;
    }

    private static List<String> examples(List<String> lines) {
        List<String> examples = new ArrayList<>();
        boolean inside = false;
        for (String line : lines) {
            if (line.startsWith("```")) {
                inside = line.equals("```java");
            } else if (inside) {
                examples.add(line.trim());
            }
        }
        return examples;
    }

    private static boolean containsInOrder(List<String> lines, List<String> wanted) {
        int found = 0;
        for (String line : lines) {
            if (found < wanted.size() && line.equals(wanted.get(found))) {
                found++;
            }
        }
        return found == wanted.size();
    }

    private static void allGoesWell() {
        LossyHandshake x = new LossyHandshake(5, 8); // a seed, and the bytes of a fragment at most (8 to 24)
        x.start(); // the client sends its HELLO
        for (int step = 0; step < 20; step++) { // more than are sent
            x.deliver(0); // hands over the oldest record; BAD when none is under way
        }
        x.send(0, 77); // the client sends DATA
        x.deliver(0);
        int arrived = x.value(1, 0); // 77, as the server received it
        Check.due("the value", arrived, 77);
        Check.due("the client", x.state(0), 4);
        Check.due("the server", x.state(1), 2);
        Check.due("the transcripts", x.transcript(0), x.transcript(1));
    }

    private static void theHelloIsLost() {
        LossyHandshake y = new LossyHandshake(5, 8);
        y.start();
        y.drop(0); // the net loses the HELLO
        int early = y.tick() + y.tick() + y.tick(); // 0, the client still waits
        int again = y.tick(); // 1, the HELLO is sent again
        int shown = y.record(0); // 1: from the client, a fragment, epoch 0, number 1
        Check.due("the first three ticks", early, 0);
        Check.due("the fourth tick", again, 1);
        Check.due("the record", shown, 1);
    }
}
