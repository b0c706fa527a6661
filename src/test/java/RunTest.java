import java.io.IOException;
import java.nio.file.Files;
import java.nio.file.Path;
import java.util.Comparator;
import java.util.List;
import java.util.stream.Stream;

/** The script that runs the tests, run on small projects of its own: it fails if one test fails, or if there is none. */
public final class RunTest {
    static final String SCRIPT = ".ci/run";

    private static final String CLASS = "public final class ShoesAtLaw {\n}\n";
    private static final String PASSES = "public final class %s {\n    public static void main(String[] args) {\n"
        + "        new ShoesAtLaw();\n    }\n}\n";
    private static final String FAILS = "public final class %s {\n    public static void main(String[] args) {\n"
        + "        System.exit(1);\n    }\n}\n";
    private static final String THROWS = "public final class %s {\n    public static void main(String[] args) {\n"
        + "        throw new IllegalStateException(\"as this test wants\");\n    }\n}\n";

    private static Path script;

    public static void main(String[] args) throws Exception {
        script = Path.of(System.getProperty("shoes.root")).resolve(SCRIPT);
        holds("all pass", true, CLASS, List.of(PASSES, PASSES), List.of(PASSES));
        holds("the first test fails", false, CLASS, List.of(FAILS, PASSES), List.of(PASSES));
        holds("the last test throws", false, CLASS, List.of(PASSES, THROWS), List.of(PASSES));
        holds("the first shared test fails", false, CLASS, List.of(PASSES), List.of(FAILS, PASSES));
        holds("the last shared test throws", false, CLASS, List.of(PASSES), List.of(PASSES, THROWS));
        holds("a shared test does not compile", false, CLASS, List.of(PASSES), List.of("class {", PASSES));
        holds("a test does not compile", false, CLASS, List.of("class {", PASSES), List.of(PASSES));
        holds("the class does not compile", false, "class {", List.of(PASSES), List.of(PASSES));
        holds("there is no test", false, CLASS, List.of(), List.of(PASSES));
        holds("there is no shared test", false, CLASS, List.of(PASSES), List.of());
        Due.end();
    }

    /** Lays a project and its shared tests side by side, as they stand here, and runs the script. */
    private static void holds(String where, boolean passes, String main, List<String> tests, List<String> shared)
            throws Exception {
        Path home = Files.createTempDirectory("run");
        Path project = home.resolve("main");
        for (String row : List.of("main/.ci", "main/src/main/java", "main/src/test/java", "shared/tests")) {
            Files.createDirectories(home.resolve(row));
        }
        Path copy = Files.copy(script, project.resolve(SCRIPT));
        Files.writeString(project.resolve("src/main/java/ShoesAtLaw.java"), main);
        for (int i = 0; i < tests.size(); i++) {
            write(project.resolve("src/test/java"), "Small" + i + "Test", tests.get(i));
        }
        for (int i = 0; i < shared.size(); i++) {
            write(home.resolve("shared/tests"), "Shared" + i, shared.get(i));
        }
        // What the small projects' tests print would read like faults of this one.
        Process run = new ProcessBuilder("sh", copy.toString()).redirectErrorStream(true)
            .redirectOutput(ProcessBuilder.Redirect.DISCARD).start();
        Due.is("the script passes where " + where, run.waitFor() == 0 ? 1 : 0, passes ? 1 : 0);
        remove(home);
    }

    private static void write(Path row, String name, String code) throws IOException {
        Files.writeString(row.resolve(name + ".java"), code.replace("%s", name));
    }

    static void remove(Path home) throws IOException {
        try (Stream<Path> files = Files.walk(home)) {
            for (Path file : files.sorted(Comparator.reverseOrder()).toList()) {
                Files.delete(file);
            }
        }
    }
}
