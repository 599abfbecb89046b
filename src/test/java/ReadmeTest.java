import java.io.File;
import java.lang.reflect.Method;
import java.net.URL;
import java.net.URLClassLoader;
import java.nio.file.Files;
import java.nio.file.Path;
import java.util.regex.Matcher;
import java.util.regex.Pattern;
import javax.tools.ToolProvider;

/** README.md names every call, constant and test, and its examples answer as it says. */
public final class ReadmeTest {
    private static final Pattern BLOCK = Pattern.compile("```java\n(.*?)```", Pattern.DOTALL);
    private static final Pattern ANSWERED = Pattern.compile("(\\S.*\\));\\s+// (-?\\w+).*");
    private static final Pattern CALL = Pattern.compile("    public int (\\w+)\\(([^)]*)\\);");
    private static int wrong = 0;

    private static void expect(boolean good, String what) {
        if (!good) {
            wrong++;
            System.out.println("README.md: " + what);
        }
    }

    /** As the document's face has them, so that a call with other arguments is none. */
    private static void namesTheFace(String readme) throws Exception {
        Matcher m = CALL.matcher(Files.readString(Path.of("../shared/DOC.md")));
        int calls = 0;
        while (m.find()) {
            String call = "| `" + m.group(1) + "(" + m.group(2).replace("int ", "") + ")` |";
            expect(readme.contains(call), "no line for " + call);
            calls++;
        }
        expect(calls == 40, "40 calls are looked for, not " + calls);
        for (java.lang.reflect.Field f : LeaningStreet.class.getFields()) expect(readme.contains("| `" + f.getName() + "` |"), "no line for " + f.getName());
    }

    private static void namesTheTests(String readme) {
        for (String file : new File("src/test/java").list()) {
            String name = file.replace(".java", "");
            if (name.endsWith("Test")) expect(readme.contains("`" + name + "`"), "no word of " + name);
        }
    }

    /** The blocks of code, one behind the other, each answer that is told held against the one that comes. */
    private static String program(String readme) {
        StringBuilder members = new StringBuilder();
        StringBuilder body = new StringBuilder();
        int answers = 0;
        for (Matcher m = BLOCK.matcher(readme); m.find();) {
            if (m.group(1).startsWith("static")) {
                members.append(m.group(1));
                continue;
            }
            for (String line : m.group(1).split("\n")) {
                Matcher answered = ANSWERED.matcher(line);
                boolean told = answered.matches();
                answers += told ? 1 : 0;
                body.append(told ? "due(\"" + answered.group(1).replace("\"", "\\\"") + "\", " + answered.group(1) + ", " + answered.group(2) + ");\n" : line + "\n");
            }
        }
        expect(answers >= 25, "examples with answers, not " + answers);
        return "class Example extends Constants {\nstatic int wrong = 0;\n"
            + "static void due(String call, int got, int want) { if (got != want) { wrong++; System.out.println(\"README.md: \" + call + \" answers \" + got + \", not \" + want); } }\n"
            + members + "static int run() {\n" + body + "return wrong;\n}\n}\n" + constants();
    }

    private static String constants() {
        StringBuilder s = new StringBuilder("class Constants {\n");
        for (java.lang.reflect.Field f : LeaningStreet.class.getFields()) s.append("static final int " + f.getName() + " = LeaningStreet." + f.getName() + ";\n");
        return s.append("}\n").toString();
    }

    private static void runs(String program) throws Exception {
        Path room = Files.createTempDirectory("readme");
        Path file = Files.writeString(room.resolve("Example.java"), program);
        int failed = ToolProvider.getSystemJavaCompiler().run(null, null, null, "-cp", System.getProperty("java.class.path"), "-d", room.toString(), file.toString());
        expect(failed == 0, "its examples do not compile");
        if (failed == 0) {
            // a loader of its own keeps Example's package apart from this test's, hence setAccessible
            try (URLClassLoader loader = new URLClassLoader(new URL[] {room.toUri().toURL()})) {
                Method run = loader.loadClass("Example").getDeclaredMethod("run");
                run.setAccessible(true);
                wrong += (Integer) run.invoke(null);
            }
        }
        for (File made : room.toFile().listFiles()) made.delete();
        room.toFile().delete();
    }

    public static void main(String[] args) throws Exception {
        String readme = Files.readString(Path.of("README.md"));
        namesTheFace(readme);
        namesTheTests(readme);
        runs(program(readme));
        System.out.println(wrong == 0 ? "README.md tells it as it is" : "README.md is wrong in " + wrong + " places");
        if (wrong != 0) System.exit(1);
    }
}
