import java.io.IOException;
import java.nio.file.Files;
import java.nio.file.Path;
import java.util.regex.Matcher;
import java.util.regex.Pattern;

/**
 * Prints a program, ReadmeCalls, of the lines of Java in a README: blocks that begin with "static" are its functions,
 * all others together its main method. An answer told behind a line of them is compared to the one that is got.
 */
final class ReadmeCode {
    private static final Pattern BLOCK = Pattern.compile("(?ms)^```java\n(.*?)^```$");
    private static final Pattern TOLD = Pattern.compile("(?:(\\w+ \\w+) = )?([\\w(].*); *// ([^:]*)(?::.*)?");

    private final StringBuilder functions = new StringBuilder();
    private final StringBuilder calls = new StringBuilder();

    private ReadmeCode() {
    }

    private void take(String block) {
        if (block.startsWith("static")) {
            functions.append(block);
            return;
        }
        for (String line : block.split("\n")) {
            Matcher told = TOLD.matcher(line);
            calls.append(told.matches() ? check(told.group(1), told.group(2), told.group(3)) : line).append('\n');
        }
    }

    private static String check(String variable, String call, String answer) {
        String kept = variable == null ? "" : variable + " = " + call + "; ";
        String asked = variable == null ? call : variable.substring(variable.indexOf(' ') + 1);
        return kept + "Check.due(" + quoted(call) + ", (Object) " + quoted(answer) + ", Check.answerOf(() -> " + asked + "));";
    }

    private static String quoted(String text) {
        return "\"" + text.replace("\\", "\\\\").replace("\"", "\\\"") + "\"";
    }

    private String program() {
        return "final class ReadmeCalls {\n" + functions + "public static void main(String[] arguments) {\n"
                + "Check.sentence(\"README.md\");\n" + calls + "Check.end(\"ReadmeCalls\");\n}\n}\n";
    }

    public static void main(String[] arguments) throws IOException {
        ReadmeCode code = new ReadmeCode();
        Matcher blocks = BLOCK.matcher(Files.readString(Path.of("README.md")));
        while (blocks.find()) {
            code.take(blocks.group(1));
        }
        System.out.print(code.program());
        System.exit(code.calls.indexOf("Check.due") < 0 ? 1 : 0);
    }
}
