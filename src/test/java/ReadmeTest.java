import java.lang.reflect.Method;
import java.lang.reflect.Modifier;
import java.net.URL;
import java.net.URLClassLoader;
import java.nio.file.Files;
import java.nio.file.Path;
import java.util.ArrayList;
import java.util.List;
import java.util.Set;
import java.util.TreeSet;
import java.util.regex.Matcher;
import java.util.regex.Pattern;
import java.util.stream.Collectors;
import java.util.stream.Stream;
import javax.tools.ToolProvider;

/** What README.md says is so: its examples answer as they say, and what it names is there. */
public final class ReadmeTest {
    private static final Pattern ASKED = Pattern.compile("^(x\\.\\w+\\(.*\\));\\s+// (-?\\d+): .+$");

    public static void main(String[] args) throws Exception {
        Path root = Path.of(System.getProperty("shoes.root"));
        String readme = Files.readString(root.resolve("README.md"));
        List<String> examples = blocks(readme, "java");
        Due.is("examples", examples.size(), 2);
        for (String example : examples) {
            example(root, example);
        }
        everyCallIsNamed(readme);
        everyTestIsNamed(root, readme);
        theWayRunsTheTests(root, readme);
        Due.end();
    }

    private static List<String> blocks(String readme, String language) {
        List<String> blocks = new ArrayList<>();
        Matcher block = Pattern.compile("(?ms)^```" + language + "\\n(.*?)^```$").matcher(readme);
        while (block.find()) {
            blocks.add(block.group(1));
        }
        return blocks;
    }

    /** Compiles an example with the class as README.md says, keeps what each line answers, and holds it against its words. */
    private static void example(Path root, String example) throws Exception {
        List<String> calls = new ArrayList<>();
        List<Long> due = new ArrayList<>();
        StringBuilder code = new StringBuilder("public final class Mine {\n    public static long[] answers() {\n"
            + "        java.util.List<Long> kept = new java.util.ArrayList<>();\n");
        for (String line : example.split("\n")) {
            Matcher asked = ASKED.matcher(line);
            if (asked.matches()) {
                calls.add(asked.group(1));
                due.add(Long.parseLong(asked.group(2)));
                code.append("kept.add((long) ").append(asked.group(1)).append(");\n");
            } else {
                Due.is("'" + line + "' says its answer", line.startsWith("x.") ? 0 : 1, 1);
                code.append(line).append('\n');
            }
        }
        code.append("return kept.stream().mapToLong(a -> a).toArray();\n    }\n}\n");
        long[] answers = answersOf(root, code.toString());
        Due.is("answers of an example", answers.length, calls.size());
        for (int i = 0; i < answers.length; i++) {
            Due.is("README.md: " + calls.get(i), answers[i], due.get(i));
        }
    }

    private static long[] answersOf(Path root, String code) throws Exception {
        Path out = Files.createTempDirectory("readme");
        try {
            Path mine = Files.writeString(out.resolve("Mine.java"), code);
            int compiled = ToolProvider.getSystemJavaCompiler().run(null, null, null, "--release", "17", "-d", out.toString(),
                root.resolve("src/main/java/ShoesAtLaw.java").toString(), mine.toString());
            Due.is("an example compiles", compiled, 0);
            if (compiled != 0) {
                return new long[0];
            }
            try (URLClassLoader loader = new URLClassLoader(new URL[] {out.toUri().toURL()}, null)) {
                return (long[]) loader.loadClass("Mine").getMethod("answers").invoke(null);
            }
        } finally {
            RunTest.remove(out);
        }
    }

    private static void everyCallIsNamed(String readme) {
        for (Method m : ShoesAtLaw.class.getDeclaredMethods()) {
            if (Modifier.isPublic(m.getModifiers())) {
                String numbers = Stream.generate(() -> "\\w+").limit(m.getParameterCount()).collect(Collectors.joining(", "));
                Pattern call = Pattern.compile("(?m)^\\|.*`" + m.getName() + "\\(" + numbers + "\\)`.*\\|$");
                Due.is("README.md's rows of calls have " + m.getName(), call.matcher(readme).find() ? 1 : 0, 1);
            }
        }
    }

    private static void everyTestIsNamed(Path root, String readme) throws Exception {
        Set<String> named = new TreeSet<>();
        Matcher name = Pattern.compile("`(\\w+Test)`").matcher(readme);
        while (name.find()) {
            named.add(name.group(1));
        }
        Set<String> there = new TreeSet<>();
        try (Stream<Path> files = Files.list(root.resolve("src/test/java"))) {
            files.map(f -> f.getFileName().toString()).filter(f -> f.endsWith("Test.java"))
                .forEach(f -> there.add(f.substring(0, f.length() - ".java".length())));
        }
        Due.is("README.md names " + named + ", there are " + there, named.equals(there) ? 1 : 0, 1);
    }

    /** RunTest runs it; here is only asked that it is the one that README.md names. */
    private static void theWayRunsTheTests(Path root, String readme) {
        List<String> ways = blocks(readme, "sh");
        Due.is("ways to run the tests", ways.size(), 1);
        for (String way : ways) {
            Due.is("README.md names " + way.trim(), way.trim().equals(RunTest.SCRIPT) ? 1 : 0, 1);
            Due.is(way.trim() + " can be run", Files.isExecutable(root.resolve(way.trim())) ? 1 : 0, 1);
        }
    }
}
