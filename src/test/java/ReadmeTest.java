import java.io.File;
import java.io.IOException;
import java.lang.reflect.InvocationTargetException;
import java.lang.reflect.Method;
import java.lang.reflect.Modifier;
import java.net.URL;
import java.net.URLClassLoader;
import java.nio.file.Files;
import java.nio.file.Path;
import java.util.ArrayList;
import java.util.Arrays;
import java.util.List;
import java.util.Set;
import java.util.TreeSet;
import java.util.regex.Matcher;
import java.util.regex.Pattern;
import java.util.stream.Collectors;
import java.util.stream.Stream;
import javax.tools.ToolProvider;

/** What README.md says is so: its program answers as it tells, and its tables leave out nothing. */
public final class ReadmeTest {
    private static final Due DUE = new Due("ReadmeTest");
    private static final Pattern BLOCK = Pattern.compile("```java\n(.*?)```", Pattern.DOTALL);
    private static final Pattern ANSWERED =
            Pattern.compile("(?m)^(x\\.(\\w+)\\(.*\\)); // (-?\\d+): .*$");
    private static final Pattern CALL_ROW =
            Pattern.compile("(?m)^\\| `(\\w+)\\(([^)]*)\\)` \\| .* \\| ([^|]*) \\|$");
    private static final Pattern TEST_ROW = Pattern.compile("(?m)^\\| `(\\w+Test)` \\| .* \\|$");
    /** Below every bound, but no NONE: refused wherever a number is asked for. */
    private static final int NO_NUMBER = -5;

    public static void main(String[] args) throws Exception {
        String text = Files.readString(Path.of("README.md"));
        program(text);
        calls(text);
        tests(text);
        DUE.finish();
    }

    /** The blocks of Java: the first is a method, the others stand behind one another in a second one. */
    private static void program(String text) throws Exception {
        StringBuilder source = new StringBuilder("public final class ReadmeProgram {\n");
        source.append("static int[] answers = new int[1000];\nstatic int count;\n");
        Matcher block = BLOCK.matcher(text);
        DUE.holds("a block", block.find());
        source.append(block.group(1)).append("public static void run() {\n");
        List<String> said = new ArrayList<>();
        List<Integer> due = new ArrayList<>();
        Set<String> used = new TreeSet<>(Set.of("feed", "end"));
        while (block.find()) {
            Matcher answered = ANSWERED.matcher(block.group(1));
            while (answered.find()) {
                said.add(answered.group(1));
                used.add(answered.group(2));
                due.add(Integer.valueOf(answered.group(3)));
            }
            source.append(answered.replaceAll("answers[count++] = $1;"));
        }
        source.append("}\n}\n");
        DUE.holds("no call without its answer", !Pattern.compile("(?m)^x\\.").matcher(source).find());
        DUE.is("calls of the program", used.size(), faces().size());
        int[] answers = run(source.toString(), said.size());
        for (int i = 0; i < answers.length; i++) {
            DUE.is("README.md, " + i + ": " + said.get(i), answers[i], due.get(i));
        }
    }

    private static int[] run(String source, int count) throws Exception {
        Path directory = Files.createTempDirectory("readme");
        Path file = directory.resolve("ReadmeProgram.java");
        try {
            Files.writeString(file, source);
            int failed = ToolProvider.getSystemJavaCompiler().run(null, null, null, "-proc:none", "-cp",
                    System.getProperty("java.class.path"), "-d", directory.toString(), file.toString());
            DUE.is("README.md's program compiles", failed, 0);
            if (failed != 0) {
                return new int[0];
            }
            try (URLClassLoader loader = new URLClassLoader(
                    new URL[] {directory.toUri().toURL()}, MendHall.class.getClassLoader())) {
                Class<?> made = loader.loadClass("ReadmeProgram");
                made.getDeclaredMethod("run").invoke(null);
                var answers = made.getDeclaredField("answers");
                answers.setAccessible(true);
                return Arrays.copyOf((int[]) answers.get(null), count);
            }
        } finally {
            clear(directory);
        }
    }

    private static void clear(Path directory) throws IOException {
        File[] files = directory.toFile().listFiles();
        for (File file : files == null ? new File[0] : files) {
            Files.delete(file.toPath());
        }
        Files.delete(directory);
    }

    private static List<Method> faces() {
        return Stream.of(MendHall.class.getDeclaredMethods())
                .filter(m -> Modifier.isPublic(m.getModifiers())).collect(Collectors.toList());
    }

    /** The table of calls: each one is there, and is refused as told. */
    private static void calls(String text) throws Exception {
        Set<String> told = new TreeSet<>();
        Matcher row = CALL_ROW.matcher(text);
        while (row.find()) {
            String name = row.group(1);
            int count = row.group(2).isEmpty() ? 0 : row.group(2).split(", ").length;
            told.add(name + " " + count);
            if (row.group(3).matches("-\\d") && !name.equals("feed")) {
                DUE.is(name + " without a HALL", refused(name, count), Integer.parseInt(row.group(3)));
            }
        }
        Set<String> face = faces().stream().map(m -> m.getName() + " " + m.getParameterCount())
                .collect(Collectors.toCollection(TreeSet::new));
        DUE.holds("the table of calls has " + face + ", and no other than these: " + told,
                face.equals(told));
        MendHall full = new MendHall();
        for (int i = 0; i < 20; i++) {
            full.feed(0, 0, 0, 0, 0);
        }
        DUE.is("feed behind 400 bytes", full.feed(0, 0, 0, 0, 0), -1);
        DUE.is("hall of no bytes", new MendHall().hall(), -2 - 1);
        DUE.is("rule of no bytes", new MendHall().rule(), -2 - 1);
    }

    private static int refused(String name, int count)
            throws IllegalAccessException, InvocationTargetException {
        Object[] arguments = new Object[count];
        Arrays.fill(arguments, NO_NUMBER);
        for (Method m : faces()) {
            if (m.getName().equals(name) && m.getParameterCount() == count) {
                return (int) m.invoke(new MendHall(), arguments);
            }
        }
        return 0;
    }

    private static void tests(String text) {
        Set<String> told = new TreeSet<>();
        Matcher row = TEST_ROW.matcher(text);
        while (row.find()) {
            told.add(row.group(1) + ".java");
        }
        Set<String> there = new TreeSet<>();
        String[] files = new File("src/test/java").list();
        for (String file : files == null ? new String[0] : files) {
            if (file.endsWith("Test.java")) {
                there.add(file);
            }
        }
        DUE.holds("the table of tests " + told + " has those that there are, " + there,
                told.equals(there));
        DUE.holds(".ci/run is there", new File(".ci/run").canExecute());
    }
}
