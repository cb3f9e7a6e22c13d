import java.nio.file.Path;

/** What README.md says of .ci/run: small projects, each with a class, tests of its own and tests beside it. */
public final class CiTest {
    private static final Path SCRIPT = Path.of(".ci/run");
    private static final String CLASS = "main/src/main/java/BiteYears.java";
    private static final String OWN = "main/src/test/java/OwnTest.java";
    private static final String SHARED = "shared/tests/SharedRuns.java";
    private static final String RIGHT_CLASS = "public final class BiteYears { public static final int NONE = -1; }";

    public static void main(String[] args) throws Exception {
        all();
        failing();
        notCompiling();
        classes();
        none();
        Check.finish();
    }

    /** A test that ends with this code; of the class it uses what stands there. */
    private static String test(String name, int code) {
        return "public final class " + name + " { public static void main(String[] a) { if (BiteYears.NONE == -1) System.exit(" + code + "); } }";
    }

    private static Sandbox project() throws Exception {
        return new Sandbox().copy(SCRIPT, "main").put(CLASS, RIGHT_CLASS).put(OWN, test("OwnTest", 0)).put(SHARED, test("SharedRuns", 0));
    }

    private static void due(String when, Sandbox box, int ended, String lastLine, String... lines) throws Exception {
        box.run("main", "sh", ".ci/run");
        Check.due(".ci/run " + when + " ends with", box.ended, ended);
        Check.due(".ci/run " + when + " prints at the end", box.lastLine(), lastLine);
        for (String line : lines) {
            Check.due(".ci/run " + when + " prints " + line, ("\n" + box.printed).contains("\n" + line + "\n"), true);
        }
    }

    private static void all() throws Exception {
        try (Sandbox box = project()) {
            due("where all pass", box, 0, "2 passed, 0 failed", "ok: OwnTest", "ok: SharedRuns");
            box.put("main/src/test/java/Helper.java", "final class Helper { static final int NUMBER = 0; }");
            box.put("main/src/test/java/SecondTest.java", test("SecondTest", 0).replace("(0)", "(Helper.NUMBER)"));
            due("with what tests share", box, 0, "3 passed, 0 failed", "ok: OwnTest", "ok: SecondTest", "ok: SharedRuns");
            box.run("", "sh", "main/.ci/run");
            Check.due(".ci/run called from elsewhere ends with", box.ended, 0);
            Check.due(".ci/run called from elsewhere prints at the end", box.lastLine(), "3 passed, 0 failed");
        }
    }

    private static void failing() throws Exception {
        try (Sandbox box = project()) {
            box.put(OWN, test("OwnTest", 1));
            due("where an own test fails", box, 1, "1 passed, 1 failed", "FAILED: OwnTest", "ok: SharedRuns");
            box.put(OWN, test("OwnTest", 0)).put(SHARED, test("SharedRuns", 1));
            due("where a shared test fails", box, 1, "1 passed, 1 failed", "ok: OwnTest", "FAILED: SharedRuns");
            box.put("shared/tests/ZuluRuns.java", test("ZuluRuns", 0));
            due("where the first of two shared tests fails", box, 1, "2 passed, 1 failed", "ok: OwnTest", "FAILED: SharedRuns", "ok: ZuluRuns");
        }
    }

    private static void notCompiling() throws Exception {
        try (Sandbox box = project()) {
            box.put(OWN, test("OwnTest", 0).replace("NONE", "SOME"));
            due("where an own test does not compile", box, 1, "1 passed, 1 failed", "FAILED: OwnTest", "ok: SharedRuns");
            box.put(OWN, test("OwnTest", 0)).put(SHARED, test("SharedRuns", 0).replace("NONE", "SOME"));
            due("where a shared test does not compile", box, 1, "1 passed, 1 failed", "ok: OwnTest", "FAILED: SharedRuns");
        }
    }

    private static void classes() throws Exception {
        try (Sandbox box = project()) {
            box.put(CLASS, RIGHT_CLASS.replace("-1", "none"));
            box.run("main", "sh", ".ci/run");
            Check.due(".ci/run where the class does not compile ends with", box.ended, 1);
            box.put(CLASS, RIGHT_CLASS.replace("; }", "; static java.util.List all; }"));
            box.run("main", "sh", ".ci/run");
            Check.due(".ci/run where the class compiles with a warning ends with", box.ended, 1);
        }
    }

    private static void none() throws Exception {
        try (Sandbox box = new Sandbox().copy(SCRIPT, "main").put(CLASS, RIGHT_CLASS).put(OWN, test("OwnTest", 0))) {
            due("without shared tests", box, 1, "1 passed, 1 failed", "ok: OwnTest");
        }
    }
}
