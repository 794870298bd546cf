import java.io.ByteArrayOutputStream;
import java.io.IOException;
import java.io.PrintStream;
import java.lang.reflect.Method;
import java.lang.reflect.Modifier;
import java.net.URL;
import java.net.URLClassLoader;
import java.nio.file.Files;
import java.nio.file.Path;
import java.util.ArrayList;
import java.util.List;
import java.util.NoSuchElementException;
import java.util.regex.MatchResult;
import java.util.regex.Matcher;
import java.util.regex.Pattern;
import javax.tools.ToolProvider;

/**
 * What README.md shows is so when it is run. Its program is compiled and must print the text shown behind it; in all
 * other Java a row "x.call(..); // answer" must answer that number, or throw what it names, and no row is without one.
 */
public final class ReadmeTest {
    private static final Path README = Path.of("README.md");
    private static final Pattern BLOCK = Pattern.compile("(?ms)^```(\\w+)\n(.*?)^```$");
    private static final Pattern ROW =
        Pattern.compile("(x\\.(\\w+)\\(.*\\)); +// (-?\\d+|throws NoSuchElementException|throws IllegalArgumentException)(,.*)?");

    private final String readme;
    private final List<String> wrong = new ArrayList<>();
    private final StringBuilder rows = new StringBuilder();
    private String program = "";
    private String printed = "";
    private int shown = 0;

    private ReadmeTest() throws IOException {
        readme = Files.readString(README);
    }

    public static void main(String[] args) throws Exception {
        ReadmeTest test = new ReadmeTest();
        test.readBlocks();
        test.namesEveryCall();
        test.runAll();
        test.wrong.forEach(row -> System.out.println("ReadmeTest: " + row));
        System.out.println(test.wrong.isEmpty() ? "ReadmeTest: all " + test.shown + " rows are so" : "ReadmeTest: not all is so");
        if (!test.wrong.isEmpty()) {
            System.exit(1);
        }
    }

    private void readBlocks() {
        List<MatchResult> blocks = BLOCK.matcher(readme).results().toList();
        for (int i = 0; i < blocks.size(); i++) {
            String code = blocks.get(i).group(2);
            if (!blocks.get(i).group(1).equals("java")) {
                continue;
            }
            if (code.contains("void main(")) {
                program = code;
                printed = i + 1 < blocks.size() ? blocks.get(i + 1).group(2) : "";
            } else {
                readRows(code);
            }
        }
        check(!program.isEmpty() && !printed.isEmpty(), "no program with what it prints");
        check(shown > 0, "no rows");
    }

    /** Each block is a method of its own, so that it can be read, and is run, without those ahead of it. */
    private void readRows(String code) {
        rows.append("{\n");
        for (String line : code.split("\n")) {
            Matcher row = ROW.matcher(line);
            if (row.matches()) {
                shown++;
                String call = row.group(1);
                rows.append("due(\"").append(call.replace("\"", "\\\"")).append("\", () -> ").append(call)
                    .append(", \"").append(row.group(3)).append("\");\n");
            } else {
                check(!line.startsWith("x."), "shows no answer: " + line);
                rows.append(line).append('\n');
            }
        }
        rows.append("}\n");
    }

    private void namesEveryCall() {
        for (Method m : FavourBeasts.class.getDeclaredMethods()) {
            if (Modifier.isPublic(m.getModifiers())) {
                check(readme.contains("`" + m.getName() + "("), "does not tell of " + m.getName());
                check(rows.indexOf("x." + m.getName() + "(") >= 0, "has no example of " + m.getName());
                boolean throwsIt = List.of(m.getExceptionTypes()).contains(NoSuchElementException.class);
                check(refusals().contains("`" + m.getName() + "`") == throwsIt, "is wrong about what " + m.getName() + " throws");
            }
        }
    }

    /** The calls that are said to throw NoSuchElementException. */
    private String refusals() {
        int from = readme.indexOf("- `NoSuchElementException`");
        int to = readme.indexOf("- `IllegalArgumentException`", Math.max(from, 0));
        return from < 0 || to < 0 ? "" : readme.substring(from, to);
    }

    private void runAll() throws Exception {
        Path place = Files.createTempDirectory("readme");
        String shownClass = "final class Shown {\n"
            + "interface Call { long answer(); }\n"
            + "static final StringBuilder wrong = new StringBuilder();\n"
            + "static int tell(FavourBeasts x, String text) { return Example.tell(x, text); }\n"
            + "static void due(String call, Call asked, String answer) {\n"
            + "String got;\n"
            + "try { got = String.valueOf(asked.answer()); }\n"
            + "catch (RuntimeException e) { got = \"throws \" + e.getClass().getSimpleName(); }\n"
            + "if (!got.equals(answer)) { wrong.append(call + \" answers \" + got + \", not \" + answer + \"; \"); }\n"
            + "}\n"
            + "public static String run() {\n" + rows + "return wrong.toString();\n}\n}\n";
        Files.writeString(place.resolve("Example.java"), program);
        Files.writeString(place.resolve("Shown.java"), shownClass);
        int compiled = ToolProvider.getSystemJavaCompiler().run(null, null, null, "-d", place.toString(), "-cp",
            System.getProperty("java.class.path"), place.resolve("Example.java").toString(), place.resolve("Shown.java").toString());
        check(compiled == 0, "what it shows does not compile");
        if (compiled == 0) {
            try (URLClassLoader loader = new URLClassLoader(new URL[] {place.toUri().toURL()})) {
                String got = printedBy(loader.loadClass("Example").getMethod("main", String[].class));
                check(got.equals(printed), "the program prints\n" + got + "not\n" + printed);
                Method run = loader.loadClass("Shown").getDeclaredMethod("run");
                run.setAccessible(true);
                String differing = (String) run.invoke(null);
                check(differing.isEmpty(), differing);
            }
        }
        remove(place);
    }

    private static String printedBy(Method main) throws Exception {
        PrintStream out = System.out;
        ByteArrayOutputStream caught = new ByteArrayOutputStream();
        System.setOut(new PrintStream(caught, true));
        try {
            main.invoke(null, (Object) new String[0]);
        } finally {
            System.setOut(out);
        }
        return caught.toString().replace("\r\n", "\n");
    }

    private static void remove(Path place) throws IOException {
        try (var files = Files.list(place)) {
            for (Path file : files.toList()) {
                Files.delete(file);
            }
        }
        Files.delete(place);
    }

    private void check(boolean right, String what) {
        if (!right) {
            wrong.add(what);
        }
    }
}
