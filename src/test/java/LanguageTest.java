import java.io.IOException;
import java.nio.file.Files;
import java.nio.file.Path;
import java.util.regex.Matcher;
import java.util.regex.Pattern;

/**
 * The rules of LANGUAGE.md that the text of the class shows by itself, and some words that it would allow but that
 * the class does without. Runs in the project's folder.
 */
final class LanguageTest {
    private static final Path SOURCE = Path.of("src/main/java/RefundShaper.java");
    private static final String[] FORBIDDEN = {"->", "::", "\\bcatch\\b", "\\btry\\b", "\\bfinally\\b",
        "\\bsynchronized\\b", "\\bassert\\b", "\\bpackage\\b", "\\bstatic\\s*\\{", "Exact\\b", "\\bextends\\b",
        "\\bObject\\b", "\\bnull\\b", "\\bvar\\b", "\\binstanceof\\b", "\\bMAX_VALUE\\b", "\\bMIN_VALUE\\b",
        "\\bCharacter\\b", "\\bSystem\\.(?!arraycopy\\b)", "\\bString\\.", "@", "\\bstatic (?!final)[a-zA-Z\\[\\]]+ \\w+ ="};
    private static final int METHOD_LINES = 60;

    private LanguageTest() {
    }

    private static void methodsAreShort(String text) {
        String name = "";
        int lines = 0;
        for (String line : text.split("\n")) {
            if (line.matches("    (    )?[a-z].*\\).*\\{")) {
                name = line.trim();
                lines = 0;
            }
            lines++;
            if (line.matches("    (    )?\\}")) {
                Check.due("is short: " + name + " " + lines, true, lines <= METHOD_LINES);
            }
        }
    }

    private static void calls(String text) {
        Matcher imports = Pattern.compile("import [^;]*").matcher(text);
        while (imports.find()) {
            Check.due("import", "import java.util.NoSuchElementException", (Object) imports.group());
        }
        Matcher library = Pattern.compile("\\b(Math|Integer|Long)\\.(\\w+)").matcher(text);
        while (library.find()) {
            Check.due("is in the library: " + library.group(), true,
                    library.group(2).matches("min|max|abs|compare|bitCount|floorDiv|floorMod"));
        }
        Matcher thrown = Pattern.compile("\\bthrow\\b[^;]*").matcher(text);
        while (thrown.find()) {
            Check.due("is thrown as it has to be: " + thrown.group(), true, thrown.group().matches(
                    "throw new (IllegalState|IllegalArgument|IndexOutOfBounds|NoSuchElement)Exception\\(\"[^\"]*\"\\)"));
        }
    }

    public static void main(String[] arguments) throws IOException {
        String text = Files.readString(SOURCE).replaceAll("//.*|(?s)/\\*.*?\\*/", "");
        for (String forbidden : FORBIDDEN) {
            Matcher found = Pattern.compile(forbidden).matcher(text);
            Check.due("the source has " + forbidden, "nothing", (Object) (found.find() ? found.group() : "nothing"));
        }
        Check.due("signs of the source", true, text.matches("[\\x01-\\x7f]*"));
        methodsAreShort(text);
        calls(text);
        Check.end("LanguageTest");
    }
}
