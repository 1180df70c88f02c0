import java.io.IOException;
import java.lang.reflect.Field;
import java.lang.reflect.Method;
import java.lang.reflect.Modifier;
import java.nio.file.Files;
import java.nio.file.Path;
import java.util.List;
import java.util.regex.Matcher;
import java.util.regex.Pattern;
import java.util.stream.Stream;

/** What README.md tells its reader is so: its examples, its tables, its tests. Run it from the project's root. */
public final class ReadmeTest {
    private static final Script SCRIPT = new Script();
    private static final Path TESTS = Path.of("src/test/java");
    private static final Path COMMAND = Path.of(".ci/run");

    public static void main(String[] args) throws IOException {
        String text = Files.readString(Path.of("README.md"));
        runExamples(text);
        checkMethods(text);
        checkConstants(text);
        checkTests(text);
        checkCommand(text);
        SCRIPT.finish();
    }

    private static void due(String what, boolean holds) {
        SCRIPT.due("README", what, holds ? "yes" : "no", "yes");
    }

    /** A line of an example is a call with its answer behind it, as far as the colon. */
    private static void runExamples(String text) {
        Matcher block = Pattern.compile("(?s)```java\n(.*?)```").matcher(text);
        int calls = 0;
        while (block.find()) {
            List<String> lines = block.group(1).lines().toList();
            SCRIPT.due("README", "the first line", lines.get(0), "CardSwitch x = new CardSwitch();");
            StringBuilder script = new StringBuilder();
            for (String line : lines.subList(1, lines.size())) {
                Matcher call = Pattern.compile("x\\.(.*\\)); +// (\\w+)(:.*)?").matcher(line);
                due("a call with its answer: " + line, call.matches());
                script.append(call.group(1) + " = " + call.group(2) + "\n");
                calls++;
            }
            SCRIPT.run("README", script.toString());
        }
        due("there are examples", calls > 0);
    }

    /** The names of parameters are not to be had from the class, so they are taken out of the text. */
    private static void checkMethods(String text) {
        String words = text.replaceAll("\\b(int|long|boolean) \\w+(?=[,)])", "$1 ");
        for (Method method : CardSwitch.class.getDeclaredMethods()) {
            if (Modifier.isPublic(method.getModifiers())) {
                StringBuilder types = new StringBuilder();
                for (Class<?> type : method.getParameterTypes()) {
                    types.append(types.length() == 0 ? "" : ", ").append(type.getName()).append(" ");
                }
                String head = "| `" + method.getReturnType().getName() + " " + method.getName() + "(" + types + ")` |";
                due("the method " + head, words.contains(head));
            }
        }
    }

    private static void checkConstants(String text) {
        for (Field field : CardSwitch.class.getFields()) {
            try {
                String row = "| `" + field.getName() + "` | " + field.getInt(null) + " |";
                due("the constant " + row, text.contains(row));
            } catch (IllegalAccessException e) {
                throw new IllegalStateException(e);
            }
        }
    }

    private static void checkTests(String text) throws IOException {
        try (Stream<Path> files = Files.list(TESTS)) {
            for (Path file : files.sorted().toList()) {
                String name = file.getFileName().toString().replace(".java", "");
                due("the file of " + name + " is told of", text.contains("`" + name + "`"));
            }
        }
        Matcher told = Pattern.compile("`(\\w+Test)`").matcher(text);
        while (told.find()) {
            due("there is a " + told.group(1), Files.exists(TESTS.resolve(told.group(1) + ".java")));
        }
    }

    private static void checkCommand(String text) throws IOException {
        due("it tells the command", text.contains("\n    " + COMMAND + "\n"));
        due("the command can be run", Files.isExecutable(COMMAND));
        due("it tells what is printed at the end", text.contains("\n    all tests passed\n"));
        due("the command prints that", Files.readString(COMMAND).contains("echo \"all tests passed\""));
    }
}
