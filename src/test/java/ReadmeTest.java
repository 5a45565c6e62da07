import java.io.ByteArrayOutputStream;
import java.io.IOException;
import java.io.PrintStream;
import java.lang.reflect.Method;
import java.lang.reflect.Modifier;
import java.net.URL;
import java.net.URLClassLoader;
import java.nio.file.Files;
import java.nio.file.Path;
import java.util.ArrayList;
import java.util.List;
import java.util.Map;
import java.util.regex.Matcher;
import java.util.regex.Pattern;
import java.util.stream.Stream;
import javax.tools.JavaCompiler;
import javax.tools.ToolProvider;

/** README.md's Java is run as it stands there, and answers, throws and prints what README.md says. */
public final class ReadmeTest {
    private static final Path README = Path.of("README.md");
    private static final Path TESTS = Path.of("src/test/java");
    private static final String PROGRAM = "ReadmeProgram";
    private static final Pattern TOLD = Pattern.compile("(?:\\w+ (\\w+) = )?(.*?);\\s*// (answers|throws) ([^:]+): \\S.*");
    private static final Pattern ROW = Pattern.compile("(?m)^\\| `(\\w+)\\((.*?)\\)` \\|.*\\|([^|\n]*)\\|$");
    private static final Map<String, String> SHORT_NAMES = Map.of("IndexOutOfBoundsException", "Index",
        "IllegalArgumentException", "Argument", "IllegalStateException", "State");

    private final String readme;
    private final List<String> lines = new ArrayList<>();
    private final List<String> due = new ArrayList<>();

    private ReadmeTest(String readme) {
        this.readme = readme;
    }

    public static void main(String[] args) throws Exception {
        ReadmeTest test = new ReadmeTest(Files.readString(README));
        test.eachCallIsShown();
        test.theProgramAnswersAsTold();
        test.eachCallHasARow();
        test.eachTestIsNamed();
        Check.end("ReadmeTest");
    }

    private static List<Method> face() {
        List<Method> face = new ArrayList<>();
        for (Method method : OrganCensus.class.getDeclaredMethods()) {
            if (Modifier.isPublic(method.getModifiers())) {
                face.add(method);
            }
        }
        return face;
    }

    /** All blocks of this kind, one behind the other. */
    private String blocks(String kind) {
        Matcher block = Pattern.compile("(?s)\n```" + kind + "\n(.*?)```\n").matcher(readme);
        StringBuilder all = new StringBuilder();
        while (block.find()) {
            all.append(block.group(1));
        }
        Check.isTrue("blocks of " + kind, all.length() > 0);
        return all.toString();
    }

    private void eachCallIsShown() {
        String program = blocks("java");
        for (Method method : face()) {
            Pattern shown = Pattern.compile("town\\." + method.getName() + "\\(.*// answers ");
            Check.isTrue("an answer of " + method.getName() + " is shown", shown.matcher(program).find());
        }
    }

    private void theProgramAnswersAsTold() throws Exception {
        Path room = Files.createTempDirectory("readme");
        try {
            Path source = room.resolve(PROGRAM + ".java");
            Files.writeString(source, program());
            JavaCompiler javac = ToolProvider.getSystemJavaCompiler();
            Check.isTrue("there is a compiler", javac != null);
            String classes = System.getProperty("java.class.path");
            int exit = javac.run(null, null, null, "-cp", classes, "-d", room.toString(), source.toString());
            Check.same("README's Java compiles", exit, 0);
            if (exit == 0) {
                compareAnswers(room);
            }
        } finally {
            remove(room);
        }
    }

    /** README's lines, with a line behind each that says what it answers, which keeps the answer. */
    private String program() {
        StringBuilder text = new StringBuilder("public final class " + PROGRAM + " {\n"
            + "public static java.util.List<String> answers() {\njava.util.List<String> told = new java.util.ArrayList<>();\n");
        for (String line : blocks("java").split("\n")) {
            Matcher shown = TOLD.matcher(line);
            if (!shown.matches()) {
                Check.isTrue("README says what comes of: " + line, !line.contains("//") && !line.startsWith("town."));
                text.append(line).append('\n');
                continue;
            }
            lines.add(line.replaceAll("\\s+", " "));
            due.add(shown.group(4));
            text.append(shown.group(3).equals("throws") ? refused(shown.group(2)) : answered(line, shown));
        }
        return text + "return told;\n}\n}\n";
    }

    private static String answered(String line, Matcher shown) {
        boolean isKept = shown.group(1) != null;
        String answer = "told.add(String.valueOf(" + shown.group(isKept ? 1 : 2) + "));\n";
        return isKept ? line + "\n" + answer : answer;
    }

    private static String refused(String call) {
        return "try {\n" + call + ";\ntold.add(\"nothing\");\n} catch (RuntimeException e) {\ntold.add(e.getClass().getSimpleName());\n}\n";
    }

    private void compareAnswers(Path room) throws Exception {
        PrintStream usual = System.out;
        ByteArrayOutputStream printed = new ByteArrayOutputStream();
        List<?> got;
        try (URLClassLoader loader = new URLClassLoader(new URL[] {room.toUri().toURL()})) {
            System.setOut(new PrintStream(printed, true));
            got = (List<?>) loader.loadClass(PROGRAM).getMethod("answers").invoke(null);
        } finally {
            System.setOut(usual);
        }
        Check.same("answers", got.size(), due.size());
        for (int i = 0; i < Math.min(got.size(), due.size()); i++) {
            Check.same(lines.get(i), got.get(i).toString(), due.get(i));
        }
        Check.same("what it prints", printed.toString(), blocks("text"));
    }

    private static void remove(Path room) throws IOException {
        try (Stream<Path> files = Files.list(room)) {
            for (Path file : files.toList()) {
                Files.delete(file);
            }
        }
        Files.delete(room);
    }

    private void eachCallHasARow() {
        List<Method> face = face();
        int rows = 0;
        Matcher row = ROW.matcher(readme);
        while (row.find()) {
            rows++;
            String name = row.group(1);
            Method method = face.stream().filter(each -> each.getName().equals(name)).findFirst().orElse(null);
            Check.isTrue("there is a call " + name, method != null);
            if (method != null) {
                int parameters = row.group(2).isEmpty() ? 0 : row.group(2).split(", ").length;
                Check.same("parameters of " + name, parameters, method.getParameterCount());
                Check.same("exceptions of " + name, row.group(3).trim(), exceptions(method));
                face.remove(method);
            }
        }
        Check.isTrue("rows", rows > 0);
        Check.same("calls without a row", face.toString(), "[]");
    }

    private static String exceptions(Method method) {
        List<String> names = new ArrayList<>();
        for (Class<?> thrown : method.getExceptionTypes()) {
            names.add(SHORT_NAMES.getOrDefault(thrown.getSimpleName(), "?"));
        }
        return String.join(", ", names);
    }

    private void eachTestIsNamed() throws IOException {
        Check.isTrue("how to run the tests", readme.contains("\n    .ci/run\n") && Files.isExecutable(Path.of(".ci/run")));
        try (Stream<Path> files = Files.list(TESTS)) {
            for (Path file : files.toList()) {
                String name = file.getFileName().toString().replace(".java", "");
                if (name.endsWith("Test") || name.endsWith("Sentences")) {
                    Check.isTrue(name + " is named", readme.contains("`" + name + "`") || name.equals("Sentences"));
                }
            }
        }
    }
}
