import java.io.IOException;
import java.lang.reflect.Method;
import java.lang.reflect.Modifier;
import java.net.URL;
import java.net.URLClassLoader;
import java.nio.file.Files;
import java.nio.file.Path;
import java.util.ArrayList;
import java.util.List;
import java.util.regex.Matcher;
import java.util.regex.Pattern;
import javax.tools.ToolProvider;

/**
 * The examples of README.md answer what stands behind them, and README.md tells every call, error
 * and reason. It is run from the project's root.
 */
public final class ReadmeTest {
    private static final Check CHECK = new Check("ReadmeTest");
    private static final Pattern EXAMPLE = Pattern.compile("(?ms)^```java\n(.*?)^```$");

    /** A row that is a call alone, with the answer that is due behind it. */
    private static final Pattern CALL = Pattern.compile("\\s*(\\w+\\.\\w+\\(.*\\));\\s+// (-?\\d+(\\.\\d+)?)(:.*)?");

    /** Far fewer checked rows than README.md has would say that they are not found any more. */
    private static final int FEWEST_CALLS = 60;

    public static void main(String[] args) throws Exception {
        String readme = Files.readString(Path.of("README.md"));
        everyCallIsTold(readme);
        everyErrorAndReasonIsTold(readme);
        examplesAnswerSo(readme);
        CHECK.end();
    }

    private static void everyCallIsTold(String readme) {
        for (Method method : LostZeros.class.getDeclaredMethods()) {
            if (Modifier.isPublic(method.getModifiers())) {
                CHECK.dueTrue("README.md has a row of " + method.getName(),
                        readme.contains("\n| `" + method.getName() + "("));
            }
        }
        for (int what = 0; what <= 13; what++) {
            CHECK.dueTrue("README.md tells count(" + what + ")",
                    Pattern.compile("(?s)`count\\(what\\)` tells .*\\b" + what + ":").matcher(readme).find());
        }
    }

    private static void everyErrorAndReasonIsTold(String readme) {
        String[] errors = {"INVALID_ARGUMENT", "NOT_POSSIBLE", "LIMIT_REACHED", "NOT_FOUND"};
        int before = -1;
        for (int error = 0; error < errors.length; error++) {
            int row = readme.indexOf("\n| `LostZeros." + errors[error] + "` | " + (-1 - error) + " |");
            CHECK.dueTrue("README.md has a row of " + errors[error] + ", in their order", row > before);
            before = row;
        }
        for (int reason = 1; reason <= 5; reason++) {
            CHECK.dueTrue("README.md has a row of the reason " + reason, readme.contains("\n| " + reason + " | "));
        }
    }

    private static void examplesAnswerSo(String readme) throws Exception {
        List<String> program = new ArrayList<>();
        program.add("public final class Examples {");
        Matcher example = EXAMPLE.matcher(readme);
        int examples = 0;
        int calls = 0;
        while (example.find()) {
            program.add("public static void example" + examples + "(java.util.List<String> told) {");
            for (String row : example.group(1).split("\n")) {
                Matcher call = CALL.matcher(row);
                boolean checked = call.matches();
                program.add(checked ? tell(call.group(1), call.group(2)) : row);
                calls += checked ? 1 : 0;
            }
            program.add("}");
            examples++;
        }
        program.add("}");
        CHECK.dueTrue("README.md has examples with answers", calls >= FEWEST_CALLS);
        runExamples(String.join("\n", program), examples);
    }

    /** The call, what it answers, and what is due. */
    private static String tell(String call, String due) {
        String name = call.replace("\"", "\\\"");
        return "told.add(\"" + name + "\"); told.add(String.valueOf(" + call + ")); told.add(\"" + due + "\");";
    }

    private static void runExamples(String program, int examples) throws Exception {
        Path folder = Files.createTempDirectory("examples");
        Path source = Files.writeString(folder.resolve("Examples.java"), program);
        try {
            int failed = ToolProvider.getSystemJavaCompiler().run(null, null, null,
                    "-cp", System.getProperty("java.class.path"), "-d", folder.toString(), source.toString());
            CHECK.due("what javac says of the examples of README.md", failed, 0);
            if (failed == 0) {
                compareExamples(folder, examples);
            }
        } finally {
            Files.deleteIfExists(source);
            Files.deleteIfExists(folder.resolve("Examples.class"));
            Files.deleteIfExists(folder);
        }
    }

    private static void compareExamples(Path folder, int examples) throws Exception {
        try (URLClassLoader loader = new URLClassLoader(new URL[] {folder.toUri().toURL()})) {
            Class<?> all = loader.loadClass("Examples");
            for (int number = 0; number < examples; number++) {
                List<String> told = new ArrayList<>();
                all.getMethod("example" + number, List.class).invoke(null, told);
                for (int place = 0; place < told.size(); place += 3) {
                    CHECK.dueText("README.md, example " + number + ", " + told.get(place),
                            told.get(place + 1), told.get(place + 2));
                }
            }
        }
    }
}
