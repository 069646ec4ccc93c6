import java.io.IOException;
import java.nio.file.Files;
import java.nio.file.Path;
import java.util.ArrayList;
import java.util.List;
import java.util.concurrent.ExecutorService;
import java.util.concurrent.Executors;
import java.util.concurrent.Future;
import java.util.concurrent.TimeUnit;
import java.util.stream.Stream;

/**
 * Breaks one sentence of the document after another in copies of the class, as mutants.txt tells, and looks whether
 * the tests of the promises see it. Run by hand, at the root of the project: java src/test/mutants/Mutants.java
 */
public final class Mutants {
    private static final Path SOURCE = Path.of("src/main/java/TriggerMatches.java");
    private static final Path TESTS = Path.of("src/test/java");
    private static final Path LIST = Path.of("src/test/mutants/mutants.txt");
    private static final long SECONDS = 60;
    /** Tests that do not name a sentence, or look at the source. */
    private static final List<String> APART = List.of("RandomRunsTest", "LanguageTest", "RoomTest");

    private final Path room;
    private final String source;
    private final List<String> tests = new ArrayList<>();

    private Mutants(Path room) throws IOException {
        this.room = room;
        source = Files.readString(SOURCE);
    }

    public static void main(String[] args) throws Exception {
        Path room = Files.createTempDirectory("mutants");
        boolean allSeen;
        try {
            allSeen = new Mutants(room).go();
        } finally {
            empty(room);
        }
        System.exit(allSeen ? 0 : 1);
    }

    private static void empty(Path room) throws IOException {
        try (Stream<Path> all = Files.walk(room)) {
            all.sorted((a, b) -> b.compareTo(a)).forEach(path -> path.toFile().delete());
        }
    }

    private boolean go() throws Exception {
        compileTests();
        ExecutorService workers = Executors.newFixedThreadPool(Runtime.getRuntime().availableProcessors());
        List<Future<String>> told = new ArrayList<>();
        String[] mutants = Files.readString(LIST).split("(?m)^== ");
        for (int i = 1; i < mutants.length; i++) {
            String mutant = mutants[i];
            Path place = Files.createDirectory(room.resolve("mutant" + i));
            told.add(workers.submit(() -> fate(mutant, place)));
        }
        workers.shutdown();
        int seen = 0;
        for (Future<String> one : told) {
            if (one.get().isEmpty()) {
                seen++;
            } else {
                System.out.println(one.get());
            }
        }
        System.out.println(seen + " of " + told.size() + " broken sentences are seen");
        return seen == told.size();
    }

    private void compileTests() throws Exception {
        List<String> command = new ArrayList<>(List.of("javac", "--release", "17", "-d", room.resolve("tests").toString(),
                SOURCE.toString()));
        try (Stream<Path> all = Files.list(TESTS)) {
            all.sorted().forEach(path -> {
                command.add(path.toString());
                String name = path.getFileName().toString().replace(".java", "");
                if (name.endsWith("Test") && !APART.contains(name)) {
                    tests.add(name);
                }
            });
        }
        if (!succeeds(command)) {
            throw new IllegalStateException("the tests do not compile");
        }
    }

    /** An empty text if a test sees that the sentence is broken. */
    private String fate(String mutant, Path place) throws Exception {
        String name = mutant.substring(0, mutant.indexOf('\n'));
        String[] texts = mutant.substring(mutant.indexOf('\n') + 1).stripTrailing().split("\n--(\n|$)", 2);
        int at = source.indexOf(texts[0]);
        if (at < 0) {
            return "not in the source: " + name;
        }
        Path broken = place.resolve("TriggerMatches.java");
        Files.writeString(broken, source.substring(0, at) + texts[1] + source.substring(at + texts[0].length()));
        if (!succeeds(List.of("javac", "--release", "17", "-d", place.toString(), broken.toString()))) {
            return "does not compile: " + name;
        }
        String path = place + System.getProperty("path.separator") + room.resolve("tests");
        for (String test : tests) {
            if (!succeeds(List.of("java", "-cp", path, test))) {
                return "";
            }
        }
        return "NOT SEEN: " + name;
    }

    private static boolean succeeds(List<String> command) throws Exception {
        Process process = new ProcessBuilder(command).redirectErrorStream(true)
                .redirectOutput(ProcessBuilder.Redirect.DISCARD).start();
        if (!process.waitFor(SECONDS, TimeUnit.SECONDS)) {
            process.destroyForcibly();
            return false;
        }
        return process.exitValue() == 0;
    }
}
