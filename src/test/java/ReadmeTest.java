import java.io.ByteArrayOutputStream;
import java.io.IOException;
import java.io.PrintStream;
import java.lang.reflect.Method;
import java.lang.reflect.Modifier;
import java.net.URL;
import java.net.URLClassLoader;
import java.nio.charset.StandardCharsets;
import java.nio.file.Files;
import java.nio.file.Path;
import java.util.ArrayList;
import java.util.List;
import java.util.TreeSet;
import java.util.regex.Matcher;
import java.util.regex.Pattern;
import java.util.stream.Collectors;
import java.util.stream.Stream;
import javax.tools.ToolProvider;

/** README.md: its program prints what it says, and it names each call, each test and each file that there is. */
final class ReadmeTest {
    private static final Path README = Path.of("README.md");
    private static final Path TESTS = Path.of("src/test/java");
    private static final Pattern PROGRAM = Pattern.compile("(?s)```java\n(.*?)```");
    private static final Pattern PRINTED = Pattern.compile("System\\.out\\.println\\(.*\\); *// ([^, ]+),.*");
    private static final Pattern TEST_NAME = Pattern.compile("\\b[A-Z]\\w*(?:Test|Edges)\\b");
    private static final Pattern PATH = Pattern.compile("(?<=[` ])((?:src|\\.ci|\\.\\./shared)[\\w./]*)(?=[` \n])");

    private ReadmeTest() {
    }

    public static void main(String[] args) throws Exception {
        String readme = Files.readString(README, StandardCharsets.UTF_8);
        Matcher program = PROGRAM.matcher(readme);
        Script.check("there is a program", program.find());
        program(program.group(1));
        calls(readme);
        tests(readme);
        paths(readme);
        Script.close("ReadmeTest");
    }

    private static void program(String program) throws Exception {
        List<String> due = new ArrayList<>();
        for (String line : program.split("\n")) {
            Matcher printed = PRINTED.matcher(line.trim());
            if (printed.matches()) {
                due.add(printed.group(1));
            }
        }
        Script.check("the program says what each line prints", due.size() > 10
                && due.size() == program.split("System\\.out\\.println", -1).length - 1);
        List<String> got = run(program);
        Script.check("the program prints " + got + ", it says " + due, got.equals(due));
    }

    private static List<String> run(String program) throws Exception {
        Path folder = Files.createTempDirectory("readme");
        Path source = folder.resolve("Day.java");
        Files.writeString(source, program, StandardCharsets.UTF_8);
        int outcome = ToolProvider.getSystemJavaCompiler().run(null, null, null, "-encoding", "UTF-8", "-cp",
                System.getProperty("java.class.path"), "-d", folder.toString(), source.toString());
        Script.check("the program compiles", outcome == 0);
        PrintStream screen = System.out;
        ByteArrayOutputStream printed = new ByteArrayOutputStream();
        try (URLClassLoader loader = new URLClassLoader(new URL[] {folder.toUri().toURL()})) {
            Method main = loader.loadClass("Day").getMethod("main", String[].class);
            System.setOut(new PrintStream(printed, true, StandardCharsets.UTF_8));
            main.invoke(null, (Object) new String[0]);
        } finally {
            System.setOut(screen);
            delete(folder);
        }
        return printed.toString(StandardCharsets.UTF_8).lines().collect(Collectors.toList());
    }

    private static void delete(Path folder) throws IOException {
        try (Stream<Path> files = Files.list(folder)) {
            for (Path file : files.collect(Collectors.toList())) {
                Files.delete(file);
            }
        }
        Files.delete(folder);
    }

    private static void calls(String readme) {
        for (Method method : AcequiaGates.class.getDeclaredMethods()) {
            if (Modifier.isPublic(method.getModifiers())) {
                Script.check("the call is in a row: " + method.getName(),
                        readme.lines().anyMatch(line -> line.startsWith("|") && line.contains("`" + method.getName() + "()`")));
            }
        }
    }

    private static void tests(String readme) throws IOException {
        TreeSet<String> there = new TreeSet<>();
        try (Stream<Path> files = Files.list(TESTS)) {
            files.map(file -> file.getFileName().toString()).filter(name -> name.matches("\\w+(Test|Edges)\\.java"))
                    .forEach(name -> there.add(name.replace(".java", "")));
        }
        TreeSet<String> told = new TreeSet<>();
        readme.lines().filter(line -> line.startsWith("| ")).forEach(line -> {
            Matcher name = TEST_NAME.matcher(line.split("\\|")[1]);
            while (name.find()) {
                told.add(name.group());
            }
        });
        Script.check("the tests are " + there + ", told are " + told, there.equals(told));
    }

    private static void paths(String readme) {
        Matcher path = PATH.matcher(readme);
        int count = 0;
        while (path.find()) {
            Script.check("there is " + path.group(), Files.exists(Path.of(path.group())));
            count++;
        }
        Script.check("paths are named", count > 5);
        Script.check(".ci/run can be run", Files.isExecutable(Path.of(".ci/run")));
    }
}
