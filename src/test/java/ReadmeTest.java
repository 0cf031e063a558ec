import java.io.File;
import java.io.IOException;
import java.lang.reflect.Method;
import java.lang.reflect.Modifier;
import java.net.URL;
import java.net.URLClassLoader;
import java.nio.charset.StandardCharsets;
import java.nio.file.Files;
import java.nio.file.Path;
import java.util.ArrayList;
import java.util.List;
import java.util.function.Supplier;
import java.util.regex.Matcher;
import java.util.regex.Pattern;
import java.util.stream.Collectors;
import java.util.stream.Stream;
import javax.tools.JavaCompiler;
import javax.tools.ToolProvider;

/** README.md: its examples are compiled and run as they stand; its command and its table are looked at. */
public final class ReadmeTest {
    private static final Pattern BLOCK = Pattern.compile("(?ms)^```java\n(.*?)^```$");
    private static final Pattern ANSWERED = Pattern.compile("(twins\\..*\\)); +// ((?:throws )?[^ :]+): .+");
    private static final Pattern ROW = Pattern.compile("(?m)^\\| `(\\w+)` \\|");
    private static final String CLASS = "ReadmeCalls";

    public static void main(String[] args) throws Exception {
        String page = Files.readString(Path.of("README.md"), StandardCharsets.UTF_8);
        examples(page);
        command(page);
        table(page);
        Check.finish();
    }

    private static void examples(String page) throws Exception {
        List<String> lines = codeOf(page);
        List<String> calls = new ArrayList<>();
        List<String> due = new ArrayList<>();
        StringBuilder body = new StringBuilder();
        for (String line : lines) {
            Matcher answered = ANSWERED.matcher(line);
            if (answered.matches()) {
                calls.add(answered.group(1));
                due.add(answered.group(2).replaceFirst("^NONE$", String.valueOf(ValveTwins.NONE)));
                body.append(keepAnswer(answered.group(1)));
            } else {
                Check.count(!line.startsWith("twins.") && !line.contains("//"), "README.md shows no answer: " + line);
                body.append(line).append('\n');
            }
        }
        List<String> got = answersOf(body.toString());
        Check.due("answers of the examples in README.md", got.size(), due.size());
        for (int i = 0; i < Math.min(got.size(), due.size()); i++) {
            Check.count(got.get(i).equals(due.get(i)), "README.md: " + calls.get(i) + " answered " + got.get(i)
                + ", it says " + due.get(i));
        }
        eachMethodIn(String.join("\n", lines));
    }

    private static List<String> codeOf(String page) {
        List<String> lines = new ArrayList<>();
        Matcher block = BLOCK.matcher(page);
        while (block.find()) {
            block.group(1).lines().forEach(lines::add);
        }
        return lines;
    }

    private static String keepAnswer(String call) {
        return "try { answers.add(String.valueOf(" + call + ")); }"
            + " catch (RuntimeException e) { answers.add(\"throws \" + e.getClass().getSimpleName()); }\n";
    }

    /** Compiles and runs the examples; the place is emptied, for nothing of it may stay behind. */
    private static List<String> answersOf(String body) throws Exception {
        Path place = Files.createTempDirectory("readme");
        try {
            return compiled(body, place).get();
        } finally {
            empty(place);
        }
    }

    private static Supplier<List<String>> compiled(String body, Path place) throws Exception {
        Path file = place.resolve(CLASS + ".java");
        Files.writeString(file, "import java.util.ArrayList;\nimport java.util.List;\n"
            + "public final class " + CLASS + " implements java.util.function.Supplier<List<String>> {\n"
            + "public List<String> get() {\nList<String> answers = new ArrayList<>();\n" + body
            + "return answers;\n}\n}\n");
        JavaCompiler compiler = ToolProvider.getSystemJavaCompiler();
        int ended = compiler.run(null, null, null, "-cp", System.getProperty("java.class.path"), "-d",
            place.toString(), file.toString());
        if (ended != 0) {
            Check.count(false, "the examples in README.md do not compile");
            return ArrayList::new;
        }
        try (URLClassLoader loader = new URLClassLoader(new URL[] {place.toUri().toURL()})) {
            Object made = loader.loadClass(CLASS).getDeclaredConstructor().newInstance();
            @SuppressWarnings("unchecked")
            Supplier<List<String>> calls = (Supplier<List<String>>) made;
            return calls;
        }
    }

    private static void empty(Path place) throws IOException {
        for (File file : place.toFile().listFiles()) {
            Files.delete(file.toPath());
        }
        Files.delete(place);
    }

    private static void eachMethodIn(String code) {
        for (Method method : ValveTwins.class.getDeclaredMethods()) {
            if (Modifier.isPublic(method.getModifiers())) {
                String call = "twins." + method.getName() + "(";
                Check.count(code.contains(call), "README.md has no example of " + method.getName());
            }
        }
    }

    /** The command is the one line of the section that is set apart. */
    private static void command(String page) {
        String[] parts = page.split("(?m)^## How to run its tests\n");
        Check.due("sections on the tests", parts.length, 2);
        List<String> commands = parts[parts.length - 1].lines().filter(line -> line.startsWith("    "))
            .map(String::trim).collect(Collectors.toList());
        Check.count(commands.equals(List.of("bash .ci/run")), "README.md gives the commands " + commands);
        Check.count(Files.isExecutable(Path.of(".ci", "run")), ".ci/run can not be run");
    }

    private static void table(String page) throws IOException {
        List<String> listed = new ArrayList<>();
        Matcher row = ROW.matcher(page);
        while (row.find()) {
            listed.add(row.group(1) + ".java");
        }
        try (Stream<Path> files = Files.list(Path.of("src", "test", "java"))) {
            List<String> tests = files.map(file -> file.getFileName().toString())
                .filter(name -> name.endsWith("Test.java")).sorted().collect(Collectors.toList());
            Check.count(listed.stream().sorted().collect(Collectors.toList()).equals(tests),
                "README.md lists the tests " + listed + ", there are " + tests);
        }
    }
}
