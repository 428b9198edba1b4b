import java.io.File;
import java.io.IOException;
import java.net.URISyntaxException;
import java.nio.file.Files;
import java.nio.file.Path;
import java.util.ArrayList;
import java.util.List;
import java.util.regex.Matcher;
import java.util.regex.Pattern;
import javax.tools.JavaCompiler;
import javax.tools.ToolProvider;

/** README.md: its example answers as it says, each call of the face has a row with what it throws, each test is named. */
public final class ReadmeTest {
    private static final Pattern JAVA_BLOCK = Pattern.compile("(?s)```java\n(.*?)```");
    /** A call with its answer, such as "int ship = station.ship(..); // -> 0: some words". */
    private static final Pattern TOLD =
            Pattern.compile("\\s*(?:int (\\w+) = )?(\\w+\\.\\w+\\(.*?\\)); *// -> (throws )?(-?\\w+)(?::.*)?");
    private static final String PROGRAM = "ReadmeExample";

    private static int answersTold = 0;

    public static void main(String[] args) throws Exception {
        String readme = Files.readString(Path.of("README.md"));
        calls(readme);
        tests(readme);
        example(readme);
        Check.end("ReadmeTest");
    }

    private static void calls(String readme) throws IOException {
        List<Document.Method> face = Document.face();
        Check.due("the document's methods", face.size(), 22);
        for (Document.Method method : face) {
            String row = rowOf(readme, method.signature());
            Check.due("README.md has a row for " + method.signature(), !row.isEmpty(), true);
            String told = row.replaceFirst("(?s).*\\| (.*) \\|$", "$1");
            Check.due("README.md tells that " + method.signature() + " throws " + method.exceptions(),
                    exceptionsIn(told).equals(method.exceptions()), true);
            Check.due("README.md says nothing for " + method.signature(), told.equals("nothing"),
                    method.exceptions().isEmpty());
            Check.due("the example calls " + method.name(), readme.contains("station." + method.name() + "("), true);
        }
    }

    private static String rowOf(String readme, String signature) {
        for (String line : readme.split("\n")) {
            if (line.startsWith("| `" + signature + "` |")) {
                return line;
            }
        }
        return "";
    }

    private static List<String> exceptionsIn(String told) {
        List<String> names = new ArrayList<>();
        Matcher found = Pattern.compile("\\w+Exception").matcher(told);
        while (found.find()) {
            names.add(found.group());
        }
        return names;
    }

    private static void tests(String readme) {
        File[] files = new File("src/test/java").listFiles((folder, name) -> name.endsWith("Test.java"));
        Check.due("tests are found", files != null && files.length > 0, true);
        for (File file : files == null ? new File[0] : files) {
            String test = file.getName().replace(".java", "");
            boolean named = Pattern.compile("(?m)^\\|[^|]*\\b" + test + "\\b[^|]*\\|").matcher(readme).find();
            Check.due("README.md names " + test, named, true);
        }
    }

    /** Compiled beside Check, so that the program sees it. */
    private static void example(String readme) throws IOException, URISyntaxException, ReflectiveOperationException {
        Path classes = Path.of(Check.class.getProtectionDomain().getCodeSource().getLocation().toURI());
        Path folder = Files.createTempDirectory("readme");
        Path source = folder.resolve(PROGRAM + ".java");
        try {
            Files.writeString(source, program(readme));
            Check.due("answers are told in the example", answersTold > 50, true);
            JavaCompiler compiler = ToolProvider.getSystemJavaCompiler();
            int code = compiler.run(null, System.out, System.out, "-cp", classes.toString(), "-d", classes.toString(),
                    source.toString());
            Check.due("the example of README.md compiles: exit code", code, 0);
            if (code == 0) {
                Class.forName(PROGRAM).getMethod("run").invoke(null);
            }
        } finally {
            Files.deleteIfExists(source);
            Files.deleteIfExists(folder);
        }
    }

    private static String program(String readme) {
        StringBuilder program = new StringBuilder("public final class " + PROGRAM + " {\npublic static void run() {\n");
        Matcher block = JAVA_BLOCK.matcher(readme);
        while (block.find()) {
            for (String line : block.group(1).split("\n")) {
                program.append(statement(line)).append('\n');
            }
        }
        return program.append("}\n}\n").toString();
    }

    private static String statement(String line) {
        Matcher told = TOLD.matcher(line);
        if (!told.matches()) {
            Check.due("README.md has an answer that can't be looked at: " + line, line.contains("->"), false);
            return line;
        }
        answersTold++;
        String call = told.group(2);
        String answer = told.group(4);
        if (told.group(3) != null) {
            return "Check.throwing(station, \"" + call + "\", " + answer + ".class, () -> " + call + ");";
        }
        String due = answer.equals("NONE") ? "PilotStation.NONE" : answer;
        String variable = told.group(1);
        if (variable == null) {
            return "Check.due(\"" + call + "\", " + call + ", " + due + ");";
        }
        return "int " + variable + " = " + call + "; Check.due(\"" + call + "\", " + variable + ", " + due + ");";
    }
}
