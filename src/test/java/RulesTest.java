import java.io.IOException;
import java.lang.reflect.Constructor;
import java.lang.reflect.Field;
import java.lang.reflect.Method;
import java.lang.reflect.Modifier;
import java.nio.file.Files;
import java.nio.file.Path;
import java.util.ArrayList;
import java.util.Arrays;
import java.util.List;
import java.util.Set;
import java.util.TreeSet;
import java.util.stream.Collectors;

/** The face that the document tells, and the rules of LANGUAGE.md that can be seen from outside or in the text. */
public final class RulesTest {
    private static final Path SOURCE = Path.of("src/main/java/FavourBeasts.java");
    private static final Path DOCUMENT = Path.of("../shared/DOC.md");
    private static final List<String> wrong = new ArrayList<>();

    public static void main(String[] args) throws IOException {
        face();
        names();
        text();
        room();
        storm();
        wrong.forEach(System.out::println);
        System.out.println(wrong.isEmpty() ? "RulesTest: all rules are kept" : "RulesTest: rules are broken");
        if (!wrong.isEmpty()) {
            System.exit(1);
        }
    }

    private static void check(boolean right, String what) {
        if (!right) {
            wrong.add("RulesTest: " + what);
        }
    }

    private static String told(Method m) {
        String parameters = Arrays.stream(m.getParameterTypes()).map(Class::getSimpleName).collect(Collectors.joining(", "));
        String thrown = Arrays.stream(m.getExceptionTypes()).map(Class::getSimpleName).collect(Collectors.joining(", "));
        return m.getReturnType() + " " + m.getName() + "(" + parameters + ")" + (thrown.isEmpty() ? "" : " throws " + thrown);
    }

    private static void face() throws IOException {
        Set<String> due = new TreeSet<>();
        for (String line : Files.readAllLines(DOCUMENT)) {
            String row = line.trim();
            if (line.startsWith("    public ") && row.endsWith(";") && row.contains("(") && !row.contains("FavourBeasts()")) {
                due.add(row.substring(7, row.length() - 1).replaceAll("int \\w+(?=[,)])", "int"));
            }
        }
        Set<String> found = new TreeSet<>();
        for (Method m : FavourBeasts.class.getDeclaredMethods()) {
            if (!Modifier.isPrivate(m.getModifiers())) {
                check(Modifier.isPublic(m.getModifiers()) && !Modifier.isStatic(m.getModifiers()), "visible: " + m);
                found.add(told(m));
            }
        }
        check(due.size() == 41, "the document's face has " + due.size() + " methods");
        check(found.equals(due), "the face is " + found + ", due is " + due);
        for (Field f : FavourBeasts.class.getDeclaredFields()) {
            check(Modifier.isPrivate(f.getModifiers()) || f.getName().equals("NONE"), "visible: " + f);
        }
        Constructor<?>[] made = FavourBeasts.class.getDeclaredConstructors();
        check(made.length == 1 && made[0].getParameterCount() == 0, "one constructor");
        check(Modifier.isFinal(FavourBeasts.class.getModifiers()), "the class is final");
        check(FavourBeasts.NONE == -1, "NONE is -1");
    }

    private static void names() {
        Set<String> open = Arrays.stream(FavourBeasts.class.getMethods()).map(Method::getName).collect(Collectors.toSet());
        List<Class<?>> classes = new ArrayList<>(List.of(FavourBeasts.class.getDeclaredClasses()));
        for (Class<?> c : classes) {
            int modifiers = c.getModifiers();
            check(Modifier.isStatic(modifiers) && !Modifier.isPublic(modifiers) && !Modifier.isProtected(modifiers), "class " + c);
        }
        classes.add(FavourBeasts.class);
        check(classes.size() <= 12, "classes: " + classes.size());
        for (Class<?> c : classes) {
            for (Method m : c.getDeclaredMethods()) {
                check(Modifier.isPublic(m.getModifiers()) || !open.contains(m.getName()), "bears a public name: " + m);
                check(m.getParameterCount() <= 7 || m.getName().equals("would"), "parameters: " + m);
            }
            long fields = Arrays.stream(c.getDeclaredFields()).filter(f -> !Modifier.isStatic(f.getModifiers())).count();
            check(fields <= 20, "fields: " + c);
        }
    }

    private static void text() throws IOException {
        List<String> lines = Files.readAllLines(SOURCE);
        List<String> imports = lines.stream().filter(l -> l.startsWith("import ")).collect(Collectors.toList());
        check(imports.equals(List.of("import java.util.Arrays;", "import java.util.NoSuchElementException;")), "imports: " + imports);
        String never = ".*(\\b(try|catch|finally|synchronized|assert|instanceof|System\\.out|System\\.exit|package|lambda"
            + "|goto|native|volatile|transient|Exact|Random|currentTimeMillis|nanoTime|Thread|File)\\b|->|::|while \\(true).*";
        for (int i = 0; i < lines.size(); i++) {
            String code = lines.get(i).replaceAll("//.*|/\\*\\*.*", "").replaceAll("^\\s*\\*.*", "");
            check(!code.matches(never), "line " + (i + 1) + ": " + code);
            check(code.chars().allMatch(c -> c < 128), "sign in line " + (i + 1));
            boolean made = code.matches(".*\\bnew\\b.*");
            boolean once = code.matches("        (final .*|\\w+ = new .*)") || code.contains("throw new ");
            check(!made || once, "made in line " + (i + 1) + ", not once: " + code);
        }
    }

    /** Whatever the arguments, a call answers or throws what its face tells, and status counts what it threw. */
    private static void storm() {
        int[] edges = {Integer.MIN_VALUE, -99, -1, 0, 1, 2, 3, 5, 6, 11, 12, 16, 20, 99, 400, 600, Integer.MAX_VALUE};
        java.util.Random random = new java.util.Random(5);
        Method[] methods = Arrays.stream(FavourBeasts.class.getDeclaredMethods())
            .filter(m -> Modifier.isPublic(m.getModifiers())).sorted(java.util.Comparator.comparing(Method::getName))
            .toArray(Method[]::new);
        for (int turn = 0; turn < 60; turn++) {
            FavourBeasts x = new FavourBeasts();
            if (turn % 3 > 0) {
                Calls.feedText(x, "folk 9 1;folk 0 0;beast 0 1 0 9;beast 1 0 3 8;fair 0 1 2;");
                x.hills(57);
            }
            int[] thrown = new int[2];
            for (int call = 0; call < 500; call++) {
                Method m = methods[random.nextInt(methods.length)];
                int[] arguments = random.ints(m.getParameterCount(), 0, edges.length).map(i -> edges[i]).toArray();
                String answer = Calls.answer(x, m.getName(), arguments);
                boolean missing = answer.equals("throws.NoSuchElementException");
                boolean refused = answer.equals("throws.IllegalArgumentException");
                thrown[0] += missing ? 1 : 0;
                thrown[1] += refused ? 1 : 0;
                boolean may = !answer.startsWith("throws.") || Arrays.stream(m.getExceptionTypes())
                    .anyMatch(e -> answer.equals("throws." + e.getSimpleName()));
                check(may, m.getName() + Arrays.toString(arguments) + " " + answer);
            }
            check(x.status(0) == thrown[0] && x.status(1) == thrown[1], "status counts what was thrown");
        }
    }

    /** No call makes objects, so what an object holds is all that the room must hold for it. */
    private static void room() {
        com.sun.management.ThreadMXBean bean =
            (com.sun.management.ThreadMXBean) java.lang.management.ManagementFactory.getThreadMXBean();
        FavourBeasts x = new FavourBeasts();
        Calls.feedText(x, "folk 9 1;folk 9 2;beast 0 1 0 9;beast 1 0 3 8;fair 0 1 2;");
        x.hills(57);
        long answers = 0;
        long least = Long.MAX_VALUE;
        for (int turn = 0; turn < 5; turn++) {
            long before = bean.getThreadAllocatedBytes(Thread.currentThread().getId());
            answers += x.look(0, 0) + x.unseen(1, 1) + x.span(7, 20, 96, 9, 0, 0) + x.cancel() + x.herd(0, 1) + x.paid(0, 1);
            answers += x.image() + x.ahead(99, 0) + x.restore() + x.price(0, 1) + x.home(12, 3, 5, 0) + x.law(0) + x.work(0) + x.book(0);
            least = Math.min(least, bean.getThreadAllocatedBytes(Thread.currentThread().getId()) - before);
        }
        check(least < 2000, "calls made " + least + " bytes of objects (" + answers + ")");
    }
}
