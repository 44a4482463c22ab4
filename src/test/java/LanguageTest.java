import java.io.IOException;
import java.lang.reflect.Field;
import java.lang.reflect.Method;
import java.lang.reflect.Modifier;
import java.nio.file.Files;
import java.nio.file.Path;
import java.util.ArrayList;
import java.util.Arrays;
import java.util.List;
import java.util.Set;
import java.util.TreeSet;
import java.util.regex.Matcher;
import java.util.regex.Pattern;

/** What of LANGUAGE.md can be read off the class and its text. Run from the root of the project. */
public final class LanguageTest {
    private static final Due DUE = new Due("LanguageTest");
    private static final String FACE = "int row(int,int,int);int set(int,int,long);int copy(int,int,int,int,int);"
            + "long element(int,int);int show(int,int);int holds(int);int says(int,int);int comer(int,int,int,int,int,int);"
            + "int ask(int,int);int tell(int,int,int);int comerOf(int,int);int road(int);int fault();int looks(int,int);"
            + "int slow(int,int);int brave(int);int order(int,int,int);int best(int);int pushes(int);"
            + "int practise(int,int,int);int fits(int,int,int);int next(int,int,int);int leader(int);int rest(int);"
            + "int painted(int,int,int);int judge(int,int);int behind(int,int,int);int done(int,int);int days(int);"
            + "int seed(int);int act(int,int,int);int trace(int);int image();int restore();int status(int)";

    public static void main(String[] args) throws IOException {
        face();
        classes();
        text(Files.readString(Path.of("src/main/java/TollForHesitators.java")));
        DUE.end();
    }

    private static void face() {
        Class<?> c = TollForHesitators.class;
        DUE.is("modifiers of the class", c.getModifiers(), Modifier.PUBLIC | Modifier.FINAL);
        Set<String> due = new TreeSet<>(Arrays.asList(FACE.split(";")));
        Set<String> got = new TreeSet<>();
        for (Method m : c.getDeclaredMethods()) {
            if (!Modifier.isPrivate(m.getModifiers())) {
                List<String> types = new ArrayList<>();
                for (Class<?> p : m.getParameterTypes()) {
                    types.add(p.getName());
                }
                got.add(m.getReturnType() + " " + m.getName() + "(" + String.join(",", types) + ")");
                DUE.is("modifiers of " + m, m.getModifiers(), Modifier.PUBLIC);
            }
        }
        DUE.holds("the methods are " + got, got.equals(due));
        DUE.is("constructors", c.getDeclaredConstructors().length, 1);
        DUE.is("the constructor's", c.getDeclaredConstructors()[0].getModifiers(), Modifier.PUBLIC);
        DUE.is("its parameters", c.getDeclaredConstructors()[0].getParameterCount(), 0);
        DUE.is("NONE", TollForHesitators.NONE, -1);
        for (Field f : c.getDeclaredFields()) {
            DUE.holds("the field " + f, Modifier.isPrivate(f.getModifiers()) != f.getName().equals("NONE"));
        }
    }

    private static void classes() {
        List<Class<?>> all = new ArrayList<>();
        all.add(TollForHesitators.class);
        all.addAll(Arrays.asList(TollForHesitators.class.getDeclaredClasses()));
        DUE.holds("classes: " + all.size(), all.size() <= 12);
        Set<String> names = new TreeSet<>();
        for (Method m : TollForHesitators.class.getDeclaredMethods()) {
            if (Modifier.isPublic(m.getModifiers())) {
                names.add(m.getName());
            }
        }
        for (Class<?> c : all) {
            if (c != TollForHesitators.class) {
                DUE.holds(c + " is static", Modifier.isStatic(c.getModifiers()));
                DUE.holds(c + " is not public", (c.getModifiers() & (Modifier.PUBLIC | Modifier.PROTECTED)) == 0);
                DUE.is("classes in " + c, c.getDeclaredClasses().length, 0);
            }
            int fields = 0;
            for (Field f : c.getDeclaredFields()) {
                boolean isStatic = Modifier.isStatic(f.getModifiers());
                DUE.holds(f + " is final, if static", !isStatic || Modifier.isFinal(f.getModifiers()));
                fields += isStatic ? 0 : 1;
            }
            DUE.holds("fields of " + c, fields <= 20);
            for (Method m : c.getDeclaredMethods()) {
                DUE.holds("parameters of " + m, m.getParameterCount() <= 7);
                boolean ofTheFace = c == TollForHesitators.class && Modifier.isPublic(m.getModifiers());
                DUE.holds("the name of " + m, ofTheFace || !names.contains(m.getName()));
                DUE.holds(m + " is no lambda", !m.getName().startsWith("lambda$"));
            }
        }
    }

    private static void text(String text) {
        String bare = text.replaceAll("(?s)/\\*.*?\\*/", "").replaceAll("//[^\n]*", "")
                .replaceAll("\"[^\"\n]*\"", "\"\"").replaceAll("'[^'\n]'", "' '");
        String[] never = {
            "throw", "throws", "try", "catch", "finally", "synchronized", "assert", "package", "hashCode", "Object",
            "System.out", "System.err", "currentTimeMillis", "nanoTime", "Random", "Thread", "native"
        };
        for (String word : never) {
            Matcher m = Pattern.compile("\\b" + Pattern.quote(word) + "\\b").matcher(bare);
            DUE.holds("no '" + word + "'", !m.find());
        }
        DUE.holds("no '::'", !bare.contains("::"));
        for (String line : bare.split("\n")) {
            DUE.holds("no lambda in '" + line + "'", !line.contains("->") || line.matches("\\s*(case|default)\\b.*"));
            DUE.holds("a library that may be: '" + line + "'", !line.startsWith("import ")
                    || line.matches("import java\\.util\\.(ArrayList|List|Arrays|Iterator);"));
        }
        for (char c : text.toCharArray()) {
            if (c > 126) {
                DUE.is("a sign of the text", c, 'a');
            }
        }
        lengths(text.split("\n"));
    }

    private static void lengths(String[] lines) {
        Pattern head = Pattern.compile("(    |        )(?!if|for|while|switch|else|return|\\})\\S.*\\) \\{");
        int methods = 0;
        for (int i = 0; i < lines.length; i++) {
            Matcher m = head.matcher(lines[i]);
            if (!m.matches()) {
                continue;
            }
            int end = i;
            while (end < lines.length && !lines[end].equals(m.group(1) + "}")) {
                end++;
            }
            methods++;
            DUE.holds("the method from line " + (i + 1) + " is short", end - i < 60);
        }
        DUE.holds("methods were found: " + methods, methods > 36);
    }
}
