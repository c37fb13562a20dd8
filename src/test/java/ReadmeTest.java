import java.io.ByteArrayOutputStream;
import java.io.IOException;
import java.io.PrintStream;
import java.lang.reflect.Method;
import java.lang.reflect.Modifier;
import java.net.URL;
import java.net.URLClassLoader;
import java.nio.charset.StandardCharsets;
import java.nio.file.Files;
import java.nio.file.Path;
import java.util.List;
import java.util.Set;
import java.util.TreeSet;
import java.util.regex.Matcher;
import java.util.regex.Pattern;
import java.util.stream.Collectors;
import java.util.stream.Stream;
import javax.tools.ToolProvider;

/** README.md tells a reader what is so: its program, its script and its text do what it says, and nothing is left out. */
public final class ReadmeTest {
    private static final Path README = Path.of("README.md");
    private static final Path TESTS = Path.of("src/test/java");

    public static void main(String[] args) throws IOException, ReflectiveOperationException {
        String readme = Files.readString(README);
        tourPrints(block(readme, "java"), block(readme, "text"));
        eachCallIsTold(readme);
        eachTestIsTold(readme);
        eachCommandIsTold(readme);
        textOfNewObject(readme);
        script(readme);
        Check.isTrue("the one command that runs the tests stands there", readme.contains("\n    .ci/run\n"));
        Check.isTrue("it can be run", Files.isExecutable(Path.of(".ci/run")));
        Check.end();
    }

    private static String block(String readme, String kind) {
        Matcher block = Pattern.compile("(?s)\n```" + kind + "\n(.*?)```\n").matcher(readme);
        boolean found = block.find();
        Check.isTrue("README.md has a block of " + kind, found);
        return found ? block.group(1) : "";
    }

    private static void tourPrints(String program, String due) throws IOException, ReflectiveOperationException {
        Path folder = Files.createTempDirectory("tour");
        Path file = folder.resolve("Tour.java");
        Files.writeString(file, program);
        int refused = ToolProvider.getSystemJavaCompiler().run(null, null, null, "-d", folder.toString(),
                "-cp", System.getProperty("java.class.path"), file.toString());
        Check.same("javac Tour.java", refused, 0);
        if (refused == 0) {
            String printed = run(folder);
            Check.isTrue("the tour prints what README.md says, not\n" + printed, printed.equals(due));
        }
        for (String name : List.of("Tour.java", "Tour.class")) {
            Files.deleteIfExists(folder.resolve(name));
        }
        Files.deleteIfExists(folder);
    }

    private static String run(Path folder) throws IOException, ReflectiveOperationException {
        PrintStream usual = System.out;
        ByteArrayOutputStream printed = new ByteArrayOutputStream();
        try (URLClassLoader loader = new URLClassLoader(new URL[] {folder.toUri().toURL()})) {
            Method main = loader.loadClass("Tour").getMethod("main", String[].class);
            System.setOut(new PrintStream(printed, true, StandardCharsets.UTF_8));
            main.invoke(null, (Object) new String[0]);
        } finally {
            System.setOut(usual);
        }
        return printed.toString(StandardCharsets.UTF_8).replace(System.lineSeparator(), "\n");
    }

    /** Each call has a row with as many arguments as it takes. */
    private static void eachCallIsTold(String readme) {
        for (Method method : CableLanding.class.getDeclaredMethods()) {
            if (Modifier.isPublic(method.getModifiers())) {
                int count = method.getParameterCount();
                String arguments = count == 0 ? "" : "\\w+" + ", \\w+".repeat(count - 1);
                String row = "(?m)^\\| `" + method.getName() + "\\(" + arguments + "\\)` \\|";
                Check.isTrue(method + " has a row", Pattern.compile(row).matcher(readme).find());
            }
        }
    }

    private static void eachTestIsTold(String readme) throws IOException {
        Set<String> told = new TreeSet<>();
        Matcher rows = Pattern.compile("(?m)^\\| (\\w+Test) \\|").matcher(readme);
        while (rows.find()) {
            told.add(rows.group(1));
        }
        try (Stream<Path> files = Files.list(TESTS)) {
            Set<String> there = files.map(file -> file.getFileName().toString())
                    .filter(name -> name.endsWith("Test.java"))
                    .map(name -> name.replace(".java", "")).collect(Collectors.toCollection(TreeSet::new));
            Check.isTrue("the tests " + there + ", told are " + told, told.equals(there));
        }
    }

    /** A command as README.md writes it: a digit stands for itself, a letter for a digit that may be drawn. */
    private static void eachCommandIsTold(String readme) {
        Matcher rows = Pattern.compile("(?m)^\\| `(\\d[\\da-z]{4})` \\|").matcher(readme);
        StringBuilder first = new StringBuilder();
        while (rows.find()) {
            first.append(rows.group(1).charAt(0));
        }
        Check.isTrue("commands 1 to 9, told are " + first, first.toString().equals("123456789"));
    }

    private static void textOfNewObject(String readme) {
        Matcher text = Pattern.compile("`(C[0-9zsw]+)` is the route of a new object").matcher(readme);
        boolean found = text.find();
        Check.isTrue("the text of a new object stands there", found);
        if (found) {
            String made = Check.all(new CableLanding());
            Check.isTrue("it is one", Check.all(Check.loaded(text.group(1))).equals(made));
        }
    }

    private static void script(String readme) {
        Matcher call = Pattern.compile("`runScript\\((\\d), (\\d+)L\\)`").matcher(readme);
        boolean found = call.find();
        Check.isTrue("a script stands there", found);
        if (found) {
            int n = Integer.parseInt(call.group(1));
            long commands = Long.parseLong(call.group(2));
            CableLanding x = new CableLanding();
            Check.same("the script", x.runScript(n, commands), CableLanding.NONE);
            Check.same("and a day later at the front", x.runScript(n + 1, commands * 100000 + 50001), CableLanding.NONE);
            x.send(0);
            Check.same("the script when ship 0 is out", x.runScript(n, commands), 0);
        }
    }
}
