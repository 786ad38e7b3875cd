import java.io.IOException;
import java.lang.reflect.Method;
import java.lang.reflect.Modifier;
import java.nio.charset.StandardCharsets;
import java.nio.file.Files;
import java.nio.file.Path;
import java.util.ArrayList;
import java.util.Comparator;
import java.util.List;
import java.util.Map;
import java.util.TreeMap;
import java.util.regex.Matcher;
import java.util.regex.Pattern;
import java.util.stream.Stream;

/** What README.md says: its blocks are followed word for word in a copy of the project, and it names all there is. */
public final class ReadmeTest {
    private static final Check CHECK = new Check("ReadmeTest");
    private static final Pattern BLOCK = Pattern.compile("(?ms)^```(\\w+)\n(.*?)^```$");
    private static final Pattern CALL = Pattern.compile("(?m)^\\| `(\\w+)\\(([^)]*)\\)` \\|");
    // This test is itself a part of it.
    private static final String ALL_TESTS = ".ci/run";

    public static void main(String[] args) throws IOException, InterruptedException {
        String readme = Files.readString(Path.of("README.md"));
        Path room = Files.createTempDirectory("readme");
        try {
            follow(readme, copyOfProject(room));
        } finally {
            remove(room);
        }
        namesEachCall(readme);
        namesEachTest(readme);
        CHECK.end();
    }

    private static Path copyOfProject(Path room) throws IOException {
        Path project = room.resolve("main");
        for (String rows : new String[] {"src/main/java", "src/test/java"}) {
            Files.createDirectories(project.resolve(rows));
            for (Path file : filesIn(Path.of(rows))) {
                Files.copy(file, project.resolve(rows).resolve(file.getFileName()));
            }
        }
        Files.createSymbolicLink(room.resolve("shared"), Path.of("../shared").toRealPath());
        return project;
    }

    private static List<Path> filesIn(Path directory) throws IOException {
        try (Stream<Path> files = Files.list(directory)) {
            return files.sorted().toList();
        }
    }

    private static void remove(Path room) throws IOException {
        List<Path> deepestFirst;
        try (Stream<Path> files = Files.walk(room)) {
            deepestFirst = files.sorted(Comparator.reverseOrder()).toList();
        }
        for (Path file : deepestFirst) {
            Files.delete(file);
        }
    }

    /** A java block is saved, an sh block is run, a text block is what the block before it has printed. */
    private static void follow(String readme, Path project) throws IOException, InterruptedException {
        List<String> kinds = new ArrayList<>();
        String printed = "";
        Matcher blocks = BLOCK.matcher(readme);
        while (blocks.find()) {
            String text = blocks.group(2);
            kinds.add(blocks.group(1));
            if (blocks.group(1).equals("java")) {
                Files.writeString(project.resolve("Example.java"), text);
            } else if (blocks.group(1).equals("sh")) {
                printed = run(text, project);
            } else {
                CHECK.holds("printed is what it says:\n" + printed, printed.equals(text));
            }
        }
        CHECK.holds("the blocks are as known here: " + kinds,
            kinds.equals(List.of("java", "sh", "text", "sh", "sh")));
        CHECK.holds("it says how to run all tests", readme.contains("\n```sh\n" + ALL_TESTS + "\n```\n"));
        CHECK.holds(ALL_TESTS + " can be run", Files.isExecutable(Path.of(ALL_TESTS)));
    }

    private static String run(String commands, Path project) throws IOException, InterruptedException {
        StringBuilder printed = new StringBuilder();
        for (String command : commands.split("\n")) {
            if (!command.equals(ALL_TESTS)) {
                Process process = new ProcessBuilder("bash", "-c", command).directory(project.toFile())
                    .redirectError(ProcessBuilder.Redirect.INHERIT).start();
                printed.append(new String(process.getInputStream().readAllBytes(), StandardCharsets.UTF_8));
                CHECK.due(command, process.waitFor(), 0);
            }
        }
        return printed.toString();
    }

    private static void namesEachCall(String readme) {
        Map<String, Integer> named = new TreeMap<>();
        Matcher calls = CALL.matcher(readme);
        while (calls.find()) {
            named.put(calls.group(1), calls.group(2).isEmpty() ? 0 : calls.group(2).split(", ").length);
        }
        Map<String, Integer> real = new TreeMap<>();
        for (Method method : TrialSearch.class.getDeclaredMethods()) {
            if (Modifier.isPublic(method.getModifiers())) {
                real.put(method.getName(), method.getParameterCount());
            }
        }
        CHECK.holds("each call with its arguments: " + named, named.equals(real));
    }

    /** The promises' tests are named as a range, all other files one by one. */
    private static void namesEachTest(String readme) throws IOException {
        int promises = 0;
        for (Path file : filesIn(Path.of("src/test/java"))) {
            String name = file.getFileName().toString().replace(".java", "");
            if (name.startsWith("Promise")) {
                promises++;
                String due = String.format("Promise%02d", promises);
                CHECK.holds(name + " is of promise " + promises, name.startsWith(due));
            } else {
                CHECK.holds("names " + name, readme.contains("`" + name + "`"));
            }
        }
        CHECK.due("a test for each promise", promises, 25);
        CHECK.holds("names the first and the last of them",
            readme.contains("`Promise01NewObjectTest` .. `Promise25UsedTest`"));
    }
}
