import java.io.IOException;
import java.lang.reflect.Method;
import java.lang.reflect.Modifier;
import java.nio.file.Files;
import java.nio.file.Path;
import java.util.ArrayList;
import java.util.Comparator;
import java.util.List;
import java.util.Set;
import java.util.TreeSet;
import java.util.regex.Matcher;
import java.util.regex.Pattern;
import java.util.stream.Stream;

/** What README.md says is so: its example, its tables of calls, the names in it, its commands. */
public final class ReadmeTest {
    private static final Pattern CALL = Pattern.compile("x\\.(\\w+)\\(([^)]*)\\); +// ([\\w-]+).*");
    private static final Pattern ROW = Pattern.compile("(?m)^\\| `(\\w+)\\(([^)]*)\\)` \\|");
    private static int wrong = 0;

    private static void must(boolean so, String what) {
        if (!so) {
            wrong++;
            System.out.println("not so: " + what);
        }
    }

    /** The lines of all blocks of a kind. */
    private static List<String> lines(String readme, String kind) {
        List<String> found = new ArrayList<>();
        Matcher block = Pattern.compile("(?s)```" + kind + "\n(.*?)```").matcher(readme);
        while (block.find()) {
            found.addAll(block.group(1).lines().toList());
        }
        return found;
    }

    private static void example(String readme) {
        List<String> lines = lines(readme, "java");
        must(!lines.isEmpty() && lines.get(0).equals("ShelfShift x = new ShelfShift();"), "it begins with an object");
        StringBuilder calls = new StringBuilder();
        for (String line : lines.subList(Math.min(1, lines.size()), lines.size())) {
            Matcher call = CALL.matcher(line);
            if (call.matches()) {
                calls.append(call.group(1)).append(' ').append(call.group(2).replace(",", ""));
                calls.append(" = ").append(call.group(3)).append("; ");
            } else {
                must(false, "a call with its answer: " + line);
            }
        }
        Script.WRONG.clear();
        new Script(calls.toString());
        Script.WRONG.forEach(line -> must(false, line));
    }

    private static int parameters(String inBrackets) {
        return inBrackets.isBlank() ? 0 : inBrackets.split(",").length;
    }

    private static void tables(String readme) {
        List<String> told = new ArrayList<>();
        Matcher row = ROW.matcher(readme);
        while (row.find()) {
            told.add(row.group(1) + " " + parameters(row.group(2)));
        }
        List<String> face = new ArrayList<>();
        for (Method m : ShelfShift.class.getDeclaredMethods()) {
            if (Modifier.isPublic(m.getModifiers())) {
                face.add(m.getName() + " " + m.getParameterCount());
            }
        }
        told.sort(Comparator.naturalOrder());
        face.sort(Comparator.naturalOrder());
        must(told.equals(face), "the tables have every call once: " + told + ", there are " + face);
    }

    /** The classes of the program and of its tests, each of them named, and none that is not there. */
    private static void names(String readme) throws IOException {
        for (Class<?> inside : ShelfShift.class.getDeclaredClasses()) {
            must(readme.contains("`" + inside.getSimpleName() + "`"), "it names " + inside.getSimpleName());
        }
        Set<String> tests = new TreeSet<>();
        try (Stream<Path> files = Files.list(Path.of("src/test/java"))) {
            files.map(file -> file.getFileName().toString().replace(".java", ""))
                .filter(name -> name.endsWith("Test")).forEach(tests::add);
        }
        Set<String> named = new TreeSet<>();
        Matcher name = Pattern.compile("`(\\w+Test)`").matcher(readme);
        while (name.find()) {
            named.add(name.group(1));
        }
        must(named.equals(tests), "it names the tests that there are: " + named + ", there are " + tests);
    }

    /** Each command but the one that runs this test; what they make goes to a folder that goes, too. */
    private static void commands(String readme) throws IOException, InterruptedException {
        List<String> commands = new ArrayList<>(lines(readme, "sh"));
        must(commands.remove("bash .ci/run") && Files.isExecutable(Path.of(".ci/run")), "it tells of .ci/run");
        must(!commands.isEmpty(), "it tells how to make more random runs");
        Path out = Files.createTempDirectory("readme");
        for (String command : commands) {
            String moved = command.replaceFirst("^(javac -d|java -cp) out ", "$1 " + out + " ");
            must(!moved.equals(command), "it uses the folder out: " + command);
            Process made = new ProcessBuilder("sh", "-c", moved).redirectErrorStream(true).start();
            String said = new String(made.getInputStream().readAllBytes());
            must(made.waitFor() == 0, command + " said " + said);
        }
        try (Stream<Path> left = Files.walk(out)) {
            left.sorted(Comparator.reverseOrder()).forEach(path -> path.toFile().delete());
        }
    }

    public static void main(String[] args) throws IOException, InterruptedException {
        String readme = Files.readString(Path.of("README.md"));
        example(readme);
        tables(readme);
        names(readme);
        commands(readme);
        System.out.println(wrong == 0 ? "README.md is as it says" : wrong + " things in README.md are not so");
        if (wrong != 0) {
            System.exit(1);
        }
    }
}
