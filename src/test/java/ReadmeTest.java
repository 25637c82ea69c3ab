import java.io.File;
import java.io.IOException;
import java.net.URL;
import java.net.URLClassLoader;
import java.nio.charset.StandardCharsets;
import java.nio.file.Files;
import java.nio.file.Path;
import java.util.ArrayList;
import java.util.Comparator;
import java.util.List;
import java.util.regex.Matcher;
import java.util.regex.Pattern;
import java.util.stream.Stream;

/**
 * What README.md shows is compiled as it stands there, and each call must answer what stands behind it; and the commands
 * that it names are run.
 */
public final class ReadmeTest {
    private static final Pattern SHOWN = Pattern.compile("(?:(?:int|boolean) (\\w+) = )?(\\S.*);\\s*// (-?\\d+|true|false|NONE)(?::.*)?");
    private static final Pattern NEW = Pattern.compile("LateOrders \\w+ = new LateOrders\\(\\);");
    private final List<String> calls = new ArrayList<>();
    private final List<Integer> due = new ArrayList<>();
    private final StringBuilder source = new StringBuilder();

    private ReadmeTest() {
    }

    public static void main(String[] args) throws Exception {
        String readme = new String(Files.readAllBytes(Path.of("README.md")), StandardCharsets.UTF_8);
        Path room = Files.createTempDirectory("readme");
        try {
            ReadmeTest test = new ReadmeTest();
            test.takes(blocks(readme, "java"));
            test.runs(room);
            test.showsEachMethod(readme);
            namesEachTest(readme);
            commands(blocks(readme, "sh"), room);
        } finally {
            clear(room);
        }
        Check.close("ReadmeTest");
    }

    private static List<String> blocks(String readme, String kind) {
        List<String> all = new ArrayList<>();
        Matcher m = Pattern.compile("(?ms)^```" + kind + "\\n(.*?)^```$").matcher(readme);
        while (m.find()) {
            all.add(m.group(1));
        }
        return all;
    }

    /** A block that begins with a function stays as it is; of the others each line is a call with its answer. */
    private void takes(List<String> blocks) {
        StringBuilder functions = new StringBuilder();
        source.append("public final class Shown { public static void run(java.util.List<Integer> answers) {\n");
        for (String block : blocks) {
            if (block.startsWith("static ")) {
                functions.append(block);
                continue;
            }
            source.append("{\n");
            for (String line : block.split("\n")) {
                takesLine(line);
            }
            source.append("}\n");
        }
        source.append("}\nprivate static int number(int v) { return v; }\n");
        source.append("private static int number(boolean v) { return v ? 1 : 0; }\n").append(functions).append("}\n");
    }

    private void takesLine(String line) {
        Matcher m = SHOWN.matcher(line);
        boolean shown = m.matches();
        Check.due("README, a call with its answer, or a new object: " + line, shown || NEW.matcher(line).matches(), true);
        if (!shown) {
            source.append(line).append("\n");
            return;
        }
        String answer = m.group(3);
        calls.add(m.group(2));
        due.add(answer.equals("NONE") ? -1 : answer.equals("true") ? 1 : answer.equals("false") ? 0 : Integer.parseInt(answer));
        String name = m.group(1);
        if (name == null) {
            source.append("answers.add(number(").append(m.group(2)).append("));\n");
        } else {
            source.append(line).append("\nanswers.add(number(").append(name).append("));\n");
        }
    }

    private void runs(Path room) throws Exception {
        Path file = room.resolve("Shown.java");
        Files.write(file, source.toString().getBytes(StandardCharsets.UTF_8));
        boolean compiles = ends(room, "javac", "-cp", System.getProperty("java.class.path"), "-d", room.toString(), file.toString());
        List<Integer> answers = new ArrayList<>();
        if (compiles) {
            try (URLClassLoader loader = new URLClassLoader(new URL[] {room.toUri().toURL()}, ReadmeTest.class.getClassLoader())) {
                loader.loadClass("Shown").getMethod("run", List.class).invoke(null, answers);
            }
        }
        Check.due("README, how many calls answered", answers.size(), due.size());
        for (int i = 0; i < Math.min(answers.size(), due.size()); i++) {
            Check.due("README, call " + i + ", " + calls.get(i), answers.get(i), due.get(i));
        }
    }

    private void showsEachMethod(String readme) {
        for (java.lang.reflect.Method method : LateOrders.class.getDeclaredMethods()) {
            if (java.lang.reflect.Modifier.isPublic(method.getModifiers())) {
                boolean shown = readme.contains("x." + method.getName() + "(");
                Check.due("README shows " + method.getName(), shown, true);
            }
        }
    }

    /** The table of the tests names those that there are, and no other. */
    private static void namesEachTest(String readme) throws IOException {
        List<String> named = new ArrayList<>();
        Matcher m = Pattern.compile("(?m)^\\| `(\\w+Test)` \\|").matcher(readme);
        while (m.find()) {
            named.add(m.group(1));
        }
        String[] files = new File("src/test/java").list((room, name) -> name.endsWith("Test.java"));
        Check.due("README, how many tests it names", named.size(), files.length);
        for (String file : files) {
            Check.due("README names " + file, named.contains(file.replace(".java", "")), true);
        }
    }

    /** The first runs all (this test, too, so that it isn't run here); the others run one alone, of the project's and of the shared. */
    private static void commands(List<String> blocks, Path room) throws Exception {
        Check.due("README, how many commands", blocks.size(), 3);
        Check.due("README, all of the tests", blocks.get(0).equals(".ci/run\n") && Files.isExecutable(Path.of(".ci/run")), true);
        ends(room, "bash", "-e", "-c", blocks.get(1));
        Matcher shared = Pattern.compile("\\.\\./shared/tests/\\w+\\.java").matcher(blocks.get(2));
        Check.due("README, one of the shared tests", shared.find(), true);
        // What lies under ../shared is not the project's: another day it may be others.
        if (Files.exists(Path.of(shared.group()))) {
            ends(room, "bash", "-e", "-c", blocks.get(2));
        }
    }

    /** Whether the command ends with 0, which is due. */
    private static boolean ends(Path room, String... command) throws Exception {
        ProcessBuilder process = new ProcessBuilder(command);
        process.environment().put("TMPDIR", room.toString());
        process.redirectErrorStream(true);
        Process run = process.start();
        run.getOutputStream().close();
        String out = new String(run.getInputStream().readAllBytes(), StandardCharsets.UTF_8);
        int ended = run.waitFor();
        Check.due("README, " + String.join(" ", command) + "\n" + out, ended, 0);
        return ended == 0;
    }

    private static void clear(Path room) throws IOException {
        try (Stream<Path> all = Files.walk(room)) {
            for (Path path : (Iterable<Path>) all.sorted(Comparator.reverseOrder())::iterator) {
                Files.delete(path);
            }
        }
    }
}
