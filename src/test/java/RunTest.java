import java.io.File;
import java.io.IOException;
import java.nio.file.Files;
import java.nio.file.Path;
import java.nio.file.StandardCopyOption;
import java.util.ArrayList;
import java.util.List;
import java.util.concurrent.TimeUnit;

/** .ci/run passes where every test passes and fails where one does not: tried on small checkouts of its own. */
public final class RunTest {
    private static final Path TRIALS = Path.of("build/trials");
    private static final String PASSES = "System.out.println(new RelationRows(3).of(0));";
    private static final String FAILS = "System.exit(new RelationRows(3).of(0));";
    private static final String THROWS = "new RelationRows(3).of(9);";
    private static final String DOES_NOT_COMPILE = "new RelationRows(3).of();";

    /** A run of .ci/run under way, and the exit code that is due. */
    private record Trial(String name, Process process, int due) {
    }

    private RunTest() {
    }

    public static void main(String[] args) throws IOException, InterruptedException {
        List<Trial> trials = new ArrayList<>();
        trials.add(start("all-pass", PASSES, PASSES, 0));
        trials.add(start("own-fails", FAILS, PASSES, 1));
        trials.add(start("own-throws", THROWS, PASSES, 1));
        trials.add(start("own-does-not-compile", DOES_NOT_COMPILE, PASSES, 1));
        trials.add(start("shared-fails", PASSES, FAILS, 1));
        trials.add(start("shared-throws", PASSES, THROWS, 1));
        trials.add(start("no-shared", PASSES, null, 1));
        Check check = new Check();
        for (Trial trial : trials) {
            check.yes(trial.name() + " ended", trial.process().waitFor(5, TimeUnit.MINUTES));
            trial.process().destroyForcibly();
            check.same(trial.name(), trial.process().waitFor(), trial.due());
        }
        check.end();
    }

    /** A test that passes stands before and behind, so that a fault must be kept in mind to the end. */
    private static Trial start(String name, String own, String shared, int due) throws IOException {
        Path trial = TRIALS.resolve(name);
        Path checkout = trial.resolve("main");
        copy(checkout, ".ci/run");
        copy(checkout, "src/main/java/RelationRows.java");
        write(checkout.resolve("src/test/java"), "ATest", PASSES);
        write(checkout.resolve("src/test/java"), "BTest", own);
        if (shared != null) {
            write(trial.resolve("shared/tests"), "First", shared);
            write(trial.resolve("shared/tests"), "Last", PASSES);
        }
        Process process = new ProcessBuilder(checkout.resolve(".ci/run").toAbsolutePath().toString())
                .redirectErrorStream(true).redirectOutput(trial.resolve("said").toFile()).directory(new File("/"))
                .start();
        return new Trial(name, process, due);
    }

    private static void copy(Path checkout, String file) throws IOException {
        Path to = checkout.resolve(file);
        Files.createDirectories(to.getParent());
        Files.copy(Path.of(file), to, StandardCopyOption.REPLACE_EXISTING, StandardCopyOption.COPY_ATTRIBUTES);
    }

    private static void write(Path folder, String name, String statement) throws IOException {
        Files.createDirectories(folder);
        Files.writeString(folder.resolve(name + ".java"), "public final class " + name + " {\n"
                + "    public static void main(String[] args) {\n        " + statement + "\n    }\n}\n");
    }
}
