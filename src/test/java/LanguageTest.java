import java.io.IOException;
import java.nio.file.Files;
import java.nio.file.Path;
import java.util.regex.Matcher;
import java.util.regex.Pattern;

/** Rules of ../shared/LANGUAGE.md that can be read off the program's text. Run it from the project's root. */
public final class LanguageTest {
    private static final Path PROGRAM = Path.of("src/main/java/CardSwitch.java");
    private static final int MOST_LINES = 60;
    private static final int MOST_PARAMETERS = 7;
    private static final int MOST_CLASSES = 12;

    public static void main(String[] args) throws IOException {
        Script script = new Script();
        String text = Files.readString(PROGRAM).replaceAll("(?s)/\\*.*?\\*/", "").replaceAll("//.*", "");
        script.due("language", "forbidden words", found(text,
            "\\b(package|throws?|try|catch|finally|synchronized|assert|protected|volatile|native)\\b|->|::|@"), "");
        script.due("language", "imports", found(text, "\\bimport\\b[^;]*"), "");
        script.due("language", "library calls", found(text,
            "\\b(?!System\\.arraycopy)(System|Thread|Runtime|Random|Class|Object)\\.\\w+"), "");
        script.due("language", "the program's own equals, hashCode, toString", found(text, "\\b(equals|hashCode|toString)\\("), "");
        script.due("language", "static fields that are not final", found(text, "static (?!final)[\\w\\[\\]]+ \\w+( =|;)"), "");
        script.due("language", "few classes", count(text, "\\bclass ") <= MOST_CLASSES ? "yes" : "no", "yes");
        checkMethods(script, text);
        script.finish();
    }

    private static String found(String text, String pattern) {
        Matcher matcher = Pattern.compile(pattern).matcher(text);
        return matcher.find() ? matcher.group() : "";
    }

    private static int count(String text, String pattern) {
        return (int) Pattern.compile(pattern).matcher(text).results().count();
    }

    /** A method's end is the next closing brace in the column of its head. */
    private static void checkMethods(Script script, String text) {
        Matcher head = Pattern.compile("(?m)^( +)(?!.*\\bclass\\b)[\\w \\[\\]]*\\w+\\(([^()]*)\\) \\{$").matcher(text);
        int methods = 0;
        while (head.find()) {
            if (head.group(1).length() > 8 || head.group().matches("\\s*(if|for|while|switch)\\b.*")) {
                continue;
            }
            methods++;
            int end = text.indexOf("\n" + head.group(1) + "}", head.end());
            int lines = count(text.substring(head.start(), end), "\n") + 2;
            int parameters = head.group(2).isEmpty() ? 0 : head.group(2).split(",").length;
            String name = head.group().trim();
            script.due("language", name + " is short", lines <= MOST_LINES ? "yes" : lines + " lines", "yes");
            script.due("language", name + " has few parameters", parameters <= MOST_PARAMETERS ? "yes" : "no", "yes");
        }
        script.due("language", "methods were found", methods >= 19 ? "yes" : "only " + methods, "yes");
    }
}
