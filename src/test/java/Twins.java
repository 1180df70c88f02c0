import java.util.ArrayList;
import java.util.List;

/**
 * Two objects are started alike, but one gets a call more, of which the document says that it alters
 * nothing. Whatever is asked of them afterwards, at once or after a crash that loses any number of
 * changes, they must answer alike.
 */
final class Twins {
    private final Script script;
    private final String title;
    private final String start;
    private final List<String> atOnce;
    private final List<List<String>> afterCrash = new ArrayList<>();

    Twins(Script script, String title, String start) {
        this.script = script;
        this.title = title;
        this.start = start;
        int unwritten = script.run(title, start).unwritten();
        atOnce = Answers.of(script.run(title, start));
        for (int n = 0; n <= unwritten; n++) {
            afterCrash.add(Answers.of(script.run(title, start, "crash(" + n + ") = true")));
        }
    }

    /** Takes each line by itself. */
    void unaltered(String... texts) {
        for (String text : texts) {
            text.lines().map(String::trim).filter(line -> !line.isEmpty()).forEach(this::compare);
        }
    }

    private void compare(String line) {
        script.alike(title, line, Answers.of(script.run(title, start, line)), atOnce);
        for (int n = 0; n < afterCrash.size(); n++) {
            String crash = "crash(" + n + ") = true";
            script.alike(title, line + ", " + crash, Answers.of(script.run(title, start, line, crash)), afterCrash.get(n));
        }
    }
}
