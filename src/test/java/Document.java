import java.io.IOException;
import java.nio.file.Files;
import java.nio.file.Path;
import java.util.ArrayList;
import java.util.List;
import java.util.regex.Matcher;
import java.util.regex.Pattern;

/** The public face as the document writes it. */
final class Document {
    private static final Pattern METHOD =
            Pattern.compile("public ((?:int|boolean|void) \\w+\\([^)]*\\))(?: throws ([\\w, ]+))?;");

    /** A method of the face: "int tide(int day, int draught)", and what it throws in the order told. */
    record Method(String signature, List<String> exceptions) {
        String name() {
            return signature.substring(signature.indexOf(' ') + 1, signature.indexOf('('));
        }

        /** As signature, but without the names of the parameters and the spaces between them. */
        String types() {
            return signature.replaceAll(" \\w+(?=[,)])", "").replace(", ", ",");
        }
    }

    private Document() {
    }

    static List<Method> face() throws IOException {
        String text = Files.readString(Path.of("../shared/DOC.md"));
        int start = text.indexOf("public final class PilotStation {");
        int end = text.indexOf("```", Math.max(start, 0));
        List<Method> methods = new ArrayList<>();
        if (start < 0 || end < 0) {
            return methods;
        }
        Matcher found = METHOD.matcher(text.substring(start, end));
        while (found.find()) {
            String exceptions = found.group(2);
            methods.add(new Method(found.group(1), exceptions == null ? List.of() : List.of(exceptions.split(", "))));
        }
        return methods;
    }
}
