import java.io.IOException;
import java.lang.reflect.Method;
import java.lang.reflect.Modifier;
import java.nio.file.Files;
import java.nio.file.Path;
import java.nio.file.StandardCopyOption;
import java.util.Set;
import java.util.TreeSet;
import java.util.regex.Matcher;
import java.util.regex.Pattern;
import java.util.stream.Collectors;
import java.util.stream.Stream;

/** Holds README.md against what it tells of. Run from the root of the project. */
public final class ReadmeTest {
    private static final Due DUE = new Due("ReadmeTest");
    private static final String CLASS = "src/main/java/TollForHesitators.java";
    private static final Path PLACE = Path.of("build/readme");

    public static void main(String[] args) throws IOException, InterruptedException {
        String readme = Files.readString(Path.of("README.md"));
        theProgram(readme);
        theCalls(readme);
        theTests(readme);
        DUE.end();
    }

    /** The program, compiled and run by the commands that stand there, prints what stands there. */
    private static void theProgram(String readme) throws IOException, InterruptedException {
        Files.createDirectories(PLACE.resolve(CLASS).getParent());
        Files.copy(Path.of(CLASS), PLACE.resolve(CLASS), StandardCopyOption.REPLACE_EXISTING);
        Files.writeString(PLACE.resolve("First.java"), block(readme, "java"));
        Process run = new ProcessBuilder("sh", "-e", "-c", block(readme, "sh")).directory(PLACE.toFile())
                .redirectErrorStream(true).start();
        String printed = new String(run.getInputStream().readAllBytes());
        DUE.is("exit code of the program", run.waitFor(), 0);
        DUE.holds("the program prints what README.md says, not\n" + printed, printed.equals(block(readme, "text")));
    }

    private static String block(String readme, String language) {
        Matcher m = Pattern.compile("(?s)\n```" + language + "\n(.*?)```\n").matcher(readme);
        boolean found = m.find();
        DUE.holds("a block of " + language, found);
        String block = found ? m.group(1) : "";
        DUE.holds("one block of " + language, found && !m.find());
        return block;
    }

    private static void theCalls(String readme) {
        Set<String> face = Stream.of(TollForHesitators.class.getDeclaredMethods())
                .filter(m -> Modifier.isPublic(m.getModifiers())).map(Method::getName)
                .collect(Collectors.toCollection(TreeSet::new));
        Set<String> named = firstColumn(section(readme, "## Use"));
        DUE.holds("the calls of the table are those of the face: " + named, named.equals(face));
    }

    private static void theTests(String readme) throws IOException {
        Set<String> tests;
        try (Stream<Path> files = Files.list(Path.of("src/test/java"))) {
            tests = files.map(f -> f.getFileName().toString()).filter(f -> f.endsWith("Test.java"))
                    .map(f -> f.replace(".java", "")).collect(Collectors.toCollection(TreeSet::new));
        }
        Set<String> named = firstColumn(section(readme, "## Tests"));
        DUE.holds("the tests of the table are those that there are: " + named, named.equals(tests));
        DUE.holds("the script can be run", Files.isExecutable(Path.of(".ci/run")));
    }

    private static String section(String readme, String head) {
        int from = readme.indexOf("\n" + head + "\n");
        DUE.holds("the section " + head, from >= 0);
        String rest = from < 0 ? "" : readme.substring(from + 1);
        int end = rest.indexOf("\n## ");
        return end < 0 ? rest : rest.substring(0, end);
    }

    /** The words between backquotes in the first column of a table. */
    private static Set<String> firstColumn(String section) {
        Set<String> words = new TreeSet<>();
        for (String line : section.split("\n")) {
            if (!line.startsWith("| ")) {
                continue;
            }
            Matcher word = Pattern.compile("`(\\w+)`").matcher(line.split("\\|")[1]);
            while (word.find()) {
                words.add(word.group(1));
            }
        }
        return words;
    }
}
