import java.io.IOException;
import java.lang.reflect.Field;
import java.lang.reflect.Method;
import java.lang.reflect.Modifier;
import java.net.URL;
import java.net.URLClassLoader;
import java.nio.file.Files;
import java.nio.file.Path;
import java.util.ArrayList;
import java.util.List;
import java.util.Set;
import java.util.TreeSet;
import java.util.regex.Matcher;
import java.util.regex.Pattern;
import java.util.stream.Stream;
import javax.tools.ToolProvider;

/** What README.md tells holds: its examples, its calls, its constants, how tests are run. Run in the project's folder. */
public final class ReadmeTest {
    private static final Path FOLDER = Path.of("build", "readme");
    private static final Pattern ANSWERED = Pattern.compile("x\\.(\\w+)\\((.*)\\);\\s*// (-?\\d+|[A-Z]+)\\b.*");
    private static final Pattern CALL = Pattern.compile("\\s*x\\..*");

    public static void main(String[] args) throws Exception {
        String readme = Files.readString(Path.of("README.md"));
        examples(readme);
        calls(readme);
        constants(readme);
        tests(readme);
        commands(readme);
        Check.finish();
    }

    private static List<String> blocks(String readme, String kind) {
        List<String> blocks = new ArrayList<>();
        Matcher block = Pattern.compile("(?ms)^```" + kind + "\n(.*?)^```$").matcher(readme);
        while (block.find()) {
            blocks.add(block.group(1));
        }
        return blocks;
    }

    /** The examples are compiled as they stand; where a line says what a call answers, that is due. */
    private static void examples(String readme) throws Exception {
        List<String> told = new ArrayList<>();
        StringBuilder source = new StringBuilder("public final class ReadmeExample {\n");
        source.append("public static void run(java.util.List<int[]> answers) {\n");
        for (String block : blocks(readme, "java")) {
            source.append("{\n");
            for (String line : block.split("\n")) {
                source.append(asked(line, told)).append('\n');
            }
            source.append("}\n");
        }
        source.append("}\n}\n");
        List<int[]> answers = run(source.toString());
        Check.holds("the examples have answers", told.size() > 30);
        Check.due("answers of the examples", answers.size(), told.size());
        for (int i = 0; i < Math.min(answers.size(), told.size()); i++) {
            Check.due(told.get(i), answers.get(i)[0], answers.get(i)[1]);
        }
    }

    private static String asked(String line, List<String> told) {
        Matcher answered = ANSWERED.matcher(line);
        if (!answered.matches()) {
            Check.holds("README says what is answered: " + line, !CALL.matcher(line).matches() || line.equals("    x.write(letter);"));
            return line;
        }
        String due = answered.group(3);
        told.add("README: " + line);
        String constant = Character.isLetter(due.charAt(0)) ? "WeaveDraft." + due : due;
        return "answers.add(new int[] {x." + answered.group(1) + "(" + answered.group(2) + "), " + constant + "});";
    }

    @SuppressWarnings("unchecked")
    private static List<int[]> run(String source) throws Exception {
        Files.createDirectories(FOLDER);
        Path file = FOLDER.resolve("ReadmeExample.java");
        Files.writeString(file, source);
        int code = ToolProvider.getSystemJavaCompiler().run(null, null, null,
            "-cp", System.getProperty("java.class.path"), "-d", FOLDER.toString(), file.toString());
        Check.due("compiling the examples", code, 0);
        List<int[]> answers = new ArrayList<>();
        if (code == 0) {
            try (URLClassLoader loader = new URLClassLoader(new URL[] {FOLDER.toUri().toURL()})) {
                loader.loadClass("ReadmeExample").getMethod("run", List.class).invoke(null, answers);
            }
        }
        return answers;
    }

    private static boolean isPublic(Method method) {
        return Modifier.isPublic(method.getModifiers());
    }

    /** The table of calls has each public method once, with as many numbers as it takes. */
    private static void calls(String readme) {
        List<String> told = new ArrayList<>();
        Matcher call = Pattern.compile("`(\\w+)\\(([^)`]*)\\)`").matcher(section(readme, "### The calls"));
        while (call.find()) {
            told.add(call.group(1) + (call.group(2).isEmpty() ? 0 : call.group(2).split(",").length));
        }
        Set<String> due = new TreeSet<>();
        for (Method method : WeaveDraft.class.getDeclaredMethods()) {
            if (isPublic(method)) {
                due.add(method.getName() + method.getParameterCount());
            }
        }
        Check.due("calls that README tells", told.size(), due.size());
        Check.holds("README tells " + told + ", due is " + due, due.equals(new TreeSet<>(told)));
    }

    private static String section(String readme, String title) {
        int start = readme.indexOf("\n" + title + "\n");
        Check.holds("README has " + title, start >= 0);
        int stop = readme.indexOf("\n#", start + 1 + title.length());
        return start < 0 ? "" : readme.substring(start, stop < 0 ? readme.length() : stop);
    }

    private static void constants(String readme) throws IllegalAccessException {
        String refused = section(readme, "### Refused calls");
        for (Field field : WeaveDraft.class.getDeclaredFields()) {
            if (Modifier.isPublic(field.getModifiers())) {
                String row = "| `" + field.getName() + "` | " + field.getInt(null) + " |";
                String said = "`" + field.getName() + "` (" + field.getInt(null) + ")";
                Check.holds("README tells " + row, refused.contains(row) || refused.contains(said));
            }
        }
    }

    /** The table of tests has each test of the project, and no other. */
    private static void tests(String readme) throws IOException {
        Set<String> told = new TreeSet<>();
        Matcher row = Pattern.compile("(?m)^\\| (\\w+Test) \\|").matcher(section(readme, "## Tests"));
        while (row.find()) {
            told.add(row.group(1));
        }
        Set<String> due = new TreeSet<>();
        try (Stream<Path> files = Files.list(Path.of("src/test/java"))) {
            files.map(file -> file.getFileName().toString()).filter(name -> name.endsWith("Test.java"))
                .forEach(name -> due.add(name.replace(".java", "")));
        }
        Check.holds("README tells " + told + ", due is " + due, told.equals(due));
        Check.holds("there is .ci/run, to be run", Files.isExecutable(Path.of(".ci/run")));
    }

    /** The commands for one test alone do what README says. */
    private static void commands(String readme) throws Exception {
        List<String> blocks = blocks(readme, "sh");
        Check.due("commands that README tells", blocks.size(), 1);
        for (String block : blocks) {
            Process process = new ProcessBuilder("sh", "-e", "-c", block).redirectErrorStream(true).start();
            String said = new String(process.getInputStream().readAllBytes());
            Check.due("README's commands say " + said + "and end", process.waitFor(), 0);
            Check.holds("README's commands run a test", said.contains(" 0 wrong"));
        }
    }
}
