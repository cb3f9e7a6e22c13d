import java.lang.reflect.Method;
import java.lang.reflect.Modifier;
import java.net.URL;
import java.net.URLClassLoader;
import java.nio.file.Files;
import java.nio.file.Path;
import java.util.ArrayList;
import java.util.List;
import java.util.TreeSet;
import java.util.regex.Matcher;
import java.util.regex.Pattern;
import java.util.stream.Stream;
import javax.tools.JavaCompiler;
import javax.tools.ToolProvider;

/** What README.md says: of how the class is used, of how one test is run, and of which tests there are. */
public final class ReadmeTest {
    private static final Path TESTS = Path.of("src/test/java");
    private static final Pattern ANSWERED = Pattern.compile("(x\\.(\\w+)\\(.*\\)); *// (throws \\w+|-?\\d+|true|false)(?:: .*)?");

    private static String readme;
    /** The calls with their answers, in README.md's order. */
    private static final List<String> CALLS = new ArrayList<>();
    private static final List<String> WANTED = new ArrayList<>();

    public static void main(String[] args) throws Exception {
        readme = Files.readString(Path.of("README.md"));
        use();
        allIsUsed();
        howTestsAreRun();
        oneTestAlone();
        whichTests();
        boundaries();
        Check.finish();
    }

    private static String section(String heading) {
        int from = readme.indexOf("\n" + heading + "\n");
        Check.due("whether there is the heading " + heading, from >= 0, true);
        String level = heading.substring(0, heading.indexOf(' '));
        int to = readme.indexOf("\n" + level + " ", from + 1);
        return readme.substring(Math.max(0, from), to < 0 ? readme.length() : to);
    }

    private static List<String> blocks(String text, String language) {
        List<String> blocks = new ArrayList<>();
        Matcher block = Pattern.compile("```" + language + "\n(.*?)```", Pattern.DOTALL).matcher(text);
        while (block.find()) {
            blocks.add(block.group(1));
        }
        return blocks;
    }

    // ---- how the class is used ----

    private static void use() throws Exception {
        String program = program();
        List<?> got = answers(program);
        Check.due("README.md's calls that were made", got.size(), CALLS.size());
        for (int i = 0; i < got.size() && i < CALLS.size(); i++) {
            Check.due("README.md, call " + (i + 1) + ": " + CALLS.get(i), got.get(i), WANTED.get(i));
        }
    }

    /** README.md's lines as they stand there, but that each answer is kept. */
    private static String program() {
        StringBuilder members = new StringBuilder();
        StringBuilder lines = new StringBuilder();
        for (String block : blocks(section("## How to use it"), "java")) {
            if (block.startsWith("static ")) {
                members.append(block);
            } else {
                for (String line : block.split("\n")) {
                    lines.append(statement(line)).append('\n');
                }
            }
        }
        return "import java.util.*;\n"
            + "public final class ReadmeUse {\n" + members
            + "interface Call { Object answer(); }\n"
            + "static String answer(Call call) {\n"
            + "    try { return String.valueOf(call.answer()); } catch (RuntimeException e) { return \"throws \" + e.getClass().getSimpleName(); }\n"
            + "}\n"
            + "public static List<String> answers() {\n"
            + "    List<String> answers = new ArrayList<>();\n" + lines + "    return answers;\n}\n}\n";
    }

    private static String statement(String line) {
        Matcher answered = ANSWERED.matcher(line);
        if (answered.matches()) {
            CALLS.add(answered.group(1));
            WANTED.add(answered.group(3));
            return "answers.add(answer(() -> " + answered.group(1) + "));";
        }
        boolean answersNothing = line.equals("x.image();");
        Check.due("whether README.md tells an answer: " + line, line.startsWith("x.") && !answersNothing, false);
        return line;
    }

    private static List<?> answers(String program) throws Exception {
        try (Sandbox box = new Sandbox().put("ReadmeUse.java", program)) {
            JavaCompiler compiler = ToolProvider.getSystemJavaCompiler();
            String classes = System.getProperty("java.class.path");
            int failed = compiler == null ? -1
                : compiler.run(null, null, null, "-cp", classes, "-d", box.directory.toString(), box.directory.resolve("ReadmeUse.java").toString());
            Check.due("README.md's lines compile", failed, 0);
            if (failed != 0) {
                return List.of();
            }
            try (URLClassLoader loader = new URLClassLoader(new URL[] {box.directory.toUri().toURL()})) {
                return (List<?>) loader.loadClass("ReadmeUse").getMethod("answers").invoke(null);
            }
        }
    }

    private static void allIsUsed() {
        String lines = String.join("\n", blocks(section("## How to use it"), "java"));
        for (Method method : BiteYears.class.getDeclaredMethods()) {
            if (Modifier.isPublic(method.getModifiers())) {
                Check.due("whether README.md uses " + method.getName(), lines.contains("x." + method.getName() + "("), true);
            }
        }
    }

    // ---- how tests are run ----

    private static void howTestsAreRun() {
        List<String> commands = blocks(section("## How to run its tests"), "sh");
        Check.due("commands of README.md", commands.size(), 2);
        Check.due("the first one", commands.isEmpty() ? "" : commands.get(0), ".ci/run\n");
        Check.due("it can be run", Files.isExecutable(Path.of(".ci/run")), true);
    }

    private static void oneTestAlone() throws Exception {
        List<String> commands = blocks(section("## How to run its tests"), "sh");
        String command = "set -e\n" + commands.get(commands.size() - 1);
        try (Sandbox box = new Sandbox()) {
            copySources(box);
            box.run("", "sh", "-c", command);
            Check.due("README.md's one test ends with", box.ended, 0);
            Check.due("README.md's one test prints " + box.printed, box.printed.matches("[1-9]\\d* asked, 0 wrong\n"), true);
            String source = Files.readString(Path.of("src/main/java/BiteYears.java"));
            box.put("src/main/java/BiteYears.java", source.replace("MOST_SORROW = 99;", "MOST_SORROW = 98;"));
            box.run("", "sh", "-c", command);
            Check.due("README.md's one test with a wrong class ends with", box.ended, 1);
            Check.due("README.md's one test with a wrong class prints " + box.printed,
                box.printed.matches("(.* answered .*, due is .*\n)+[1-9]\\d* asked, [1-9]\\d* wrong\n"), true);
        }
    }

    private static void copySources(Sandbox box) throws Exception {
        try (Stream<Path> files = Files.walk(Path.of("src"))) {
            for (Path file : files.filter(Files::isRegularFile).toList()) {
                box.copy(file, "");
            }
        }
    }

    private static void whichTests() throws Exception {
        TreeSet<String> told = new TreeSet<>();
        Matcher row = Pattern.compile("(?m)^\\| `(\\w+)` \\|").matcher(section("## How to run its tests"));
        while (row.find()) {
            told.add(row.group(1));
        }
        TreeSet<String> there = new TreeSet<>();
        try (Stream<Path> files = Files.list(TESTS)) {
            files.map(file -> file.getFileName().toString()).filter(name -> name.endsWith("Test.java"))
                .forEach(name -> there.add(name.substring(0, name.length() - 5)));
        }
        Check.due("the tests that README.md tells", told, there);
    }

    /** The lines that README.md quotes stand in the tests, and the parts of EdgesTest that it names are run. */
    private static void boundaries() throws Exception {
        String section = section("### Tests of boundaries");
        StringBuilder all = new StringBuilder();
        try (Stream<Path> files = Files.list(TESTS)) {
            for (Path file : files.filter(f -> f.getFileName().toString().startsWith("Edges")).toList()) {
                all.append(Files.readString(file));
            }
        }
        for (String line : String.join("", blocks(section, "java")).split("\n")) {
            String code = line.replaceAll(" *//.*", "");
            Check.due("whether a test has " + code, all.indexOf("\n        " + code + "\n") >= 0, true);
        }
        Matcher part = Pattern.compile("`(EdgesOf\\w+)`").matcher(section);
        TreeSet<String> parts = new TreeSet<>();
        while (part.find()) {
            parts.add(part.group(1));
            Check.due("whether EdgesTest runs " + part.group(1), all.indexOf(part.group(1) + ".run();") >= 0, true);
        }
        try (Stream<Path> files = Files.list(TESTS)) {
            TreeSet<String> there = new TreeSet<>();
            files.map(file -> file.getFileName().toString()).filter(name -> name.startsWith("EdgesOf"))
                .forEach(name -> there.add(name.substring(0, name.length() - 5)));
            Check.due("the parts of EdgesTest that README.md tells", parts, there);
        }
    }
}
