import java.io.IOException;
import java.lang.reflect.Method;
import java.nio.file.Files;
import java.nio.file.Path;
import java.util.ArrayList;
import java.util.Arrays;
import java.util.BitSet;
import java.util.List;
import java.util.stream.Stream;

/**
 * Holds the tests against ../shared/DOC.md: each promise has tests, the words that a test quotes stand in the
 * document, and no part of a sentence of it is quoted by none. Run from the root of the project.
 */
public final class SentenceTest {
    private static final Due DUE = new Due("SentenceTest");
    private static final Path DOC = Path.of("../shared/DOC.md");
    private static final Path TESTS = Path.of("src/test/java");
    private static final int PROMISES = 36;

    /** A part of the document, its signs in one line, and which of them are quoted. */
    private record Section(String name, String text, BitSet quoted) {
        Section(String name, String text) {
            this(name, text, new BitSet());
        }

        boolean quote(String words) {
            int at = text.indexOf(words);
            boolean found = at >= 0;
            while (at >= 0) {
                quoted.set(at, at + words.length());
                at = text.indexOf(words, at + 1);
            }
            return found;
        }
    }

    public static void main(String[] args) throws IOException, ClassNotFoundException {
        List<Method> tests = tests();
        eachPromiseHasTests(tests);
        if (Files.exists(DOC)) {
            sentences(tests, Files.readString(DOC));
        } else {
            System.out.println("SentenceTest: there is no " + DOC + ", so that its sentences are not asked for");
        }
        DUE.end();
    }

    private static List<Method> tests() throws IOException, ClassNotFoundException {
        List<String> names = new ArrayList<>();
        try (Stream<Path> files = Files.list(TESTS)) {
            files.map(f -> f.getFileName().toString()).filter(f -> f.endsWith("Test.java")).sorted().forEach(names::add);
        }
        List<Method> tests = new ArrayList<>();
        for (String name : names) {
            tests.addAll(Suite.testsOf(Class.forName(name.replace(".java", ""))));
        }
        return tests;
    }

    private static void eachPromiseHasTests(List<Method> tests) {
        int[] counts = new int[PROMISES + 1];
        for (Method m : tests) {
            for (int promise : m.getAnnotation(Promise.class).value()) {
                DUE.holds(m + " names a promise", promise >= 1 && promise <= PROMISES);
                counts[Math.max(0, Math.min(PROMISES, promise))]++;
            }
        }
        for (int promise = 1; promise <= PROMISES; promise++) {
            DUE.holds("promise " + promise + " has tests: " + counts[promise], counts[promise] >= 2);
        }
    }

    private static void sentences(List<Method> tests, String doc) {
        List<Section> sections = sections(doc);
        String whole = oneLine(doc);
        for (Method m : tests) {
            Promise promise = m.getAnnotation(Promise.class);
            for (String words : promise.says()) {
                boolean found = sections.get(0).quote(words) || whole.contains(words);
                for (int p : promise.value()) {
                    found |= p < sections.size() && sections.get(p).quote(words);
                }
                DUE.holds(m.getName() + " quotes what stands there: '" + words + "'", found);
            }
        }
        for (Section s : sections) {
            int from = 0;
            for (String part : s.text.split("(?<=[.;:] )")) {
                int quoted = s.quoted.get(from, from + part.length()).cardinality();
                DUE.holds(s.name + ": '" + part.trim() + "' is quoted by a test: " + quoted, quoted * 2 >= part.trim().length());
                from += part.length();
            }
        }
    }

    /** The terms and each promise, without their headings, fences and signatures. */
    private static List<Section> sections(String doc) {
        String[] parts = doc.split("(?m)^## ");
        List<Section> sections = new ArrayList<>();
        sections.add(new Section("Terms", ""));
        for (String part : parts) {
            String body = part.substring(part.indexOf('\n') + 1);
            if (part.startsWith("Terms")) {
                sections.set(0, new Section("Terms", oneLine(body.replaceAll("(?m)^(====|```).*$", ""))));
            } else if (part.startsWith("Promise ")) {
                String name = part.substring(0, part.indexOf(':'));
                sections.add(new Section(name, oneLine(body.replaceFirst("(?s)^\\s*`[^`]*`:", ""))));
            }
        }
        DUE.is("sections", sections.size(), PROMISES + 1);
        return sections;
    }

    private static String oneLine(String text) {
        return String.join(" ", Arrays.asList(text.trim().split("\\s+")));
    }
}
