import java.util.ArrayList;
import java.util.Arrays;
import java.util.List;

/**
 * "All but the clock is as it was before them .. and the others are written": an object that lost changes
 * must answer like one that never had them, and has the clock of the one that had.
 */
public final class LostChangesTest {
    private static final Script SCRIPT = new Script();

    /** One of every kind, each of which can be done after EVERY_STATE. */
    private static final String[] FURTHER = {
        "route(2, 1, 50) = true",
        "route(1, 0, 2000) = true",
        "route(1, 3, 1000) = true",
        "card(20000006, 500, 0) = 2",
        "authorise(1, 11, 20000006, 100, false) = UNKNOWN",
        "authorise(1, 11, 10000008, 100, true) = BUSY",
        "reverse(1, 11, 100000) = 0",
        "reverse(1, 2, 99) = 1",
        "reverse(1, 2, 0) = 100",
        "reverse(1, 3, 1) = 99",
        "reverse(1, 3, 0) = 100",
        "present(1, 2, 100) = 4",
        "present(1, 3, 100) = 4",
        "present(1, 2, 1) = 1",
        "chargeback(1, 6) = 100",
        "represent(1, 7) = 100",
        "cutoff() = 5",
    };

    public static void main(String[] args) {
        theLatestOfSixteen();
        withTicksBetween();
        aSeventeenth();
        eachKindAlone();
        anApprovalAlone();
        secondAndThirdSixteen();
        aCrashOfNoneIsAFlush();
        changesAfterACrash();
        SCRIPT.finish();
    }

    private static String join(List<String> lines) {
        return String.join("\n", lines) + "\n";
    }

    private static void compare(String title, String lost, String never) {
        SCRIPT.alike(title, "after all", Answers.of(SCRIPT.run(title, lost)), Answers.of(SCRIPT.run(title, never)));
    }

    private static void theLatestOfSixteen() {
        List<String> changes = Arrays.asList(Scenes.CHANGES);
        for (int n = 0; n <= 16; n++) {
            String kept = Scenes.WRITTEN + join(changes.subList(0, 16 - n));
            compare("the latest " + n + " of 16 are lost",
                Scenes.EVERY_STATE + "crash(" + n + ") = true\n unwritten() = 0\n crash(1) = false\n",
                kept + "flush() = " + (16 - n));
        }
    }

    /** The ticks come in the lost part too; the object that never had the changes has the ticks all the same. */
    private static void withTicksBetween() {
        for (int n = 0; n <= 16; n++) {
            List<String> all = new ArrayList<>();
            List<String> kept = new ArrayList<>();
            for (int i = 0; i < 16; i++) {
                String tick = "tick(1) = " + (51 + i);
                all.add(Scenes.CHANGES[i]);
                all.add(tick);
                if (i < 16 - n) {
                    kept.add(Scenes.CHANGES[i]);
                }
                kept.add(tick);
            }
            compare("the latest " + n + " of 16 are lost, the ticks are not",
                Scenes.WRITTEN + join(all) + "crash(" + n + ") = true\n", Scenes.WRITTEN + join(kept) + "flush() = " + (16 - n));
        }
    }

    /** "These 16 are written first, and the new one is the only unwritten one." */
    private static void aSeventeenth() {
        for (String change : FURTHER) {
            String all = Scenes.EVERY_STATE + change + "\n unwritten() = 1\n crash(2) = false\n";
            compare("the 17th is lost: " + change, all + "crash(1) = true\n", Scenes.EVERY_STATE + "flush() = 16\n");
            compare("the 17th is written: " + change, all + "flush() = 1\n", Scenes.EVERY_STATE + "flush() = 16\n" + change + "\n flush() = 1\n");
        }
    }

    private static void eachKindAlone() {
        String written = Scenes.EVERY_STATE + "flush() = 16\n";
        for (String change : FURTHER) {
            compare("lost: " + change, written + change + "\n unwritten() = 1\n crash(1) = true\n", written);
            compare("lost with another: " + change, written + "reverse(0, 9999, 0) = 0\n" + change + "\n unwritten() = 2\n crash(2) = true\n", written);
            compare("lost and done again: " + change, written + change + "\n crash(1) = true\n" + change + "\n flush() = 1\n", written + change + "\n flush() = 1\n");
        }
    }

    /** EVERY_STATE is BUSY at its clock, so the approvals come ten later. */
    private static void anApprovalAlone() {
        String later = Scenes.EVERY_STATE + "tick(10) = 60\n";
        for (String approval : new String[] {"authorise(1, 11, 10000008, 100, false) = 100", "authorise(0, 1, 10000008, 2000, true) = 1500"}) {
            compare("a 17th that is approved is lost", later + approval + "\n unwritten() = 1\n crash(1) = true\n", later + "flush() = 16\n");
            compare("a 17th that is approved stays", later + approval + "\n crash(0) = true\n", later + "flush() = 16\n" + approval + "\n flush() = 1\n");
        }
    }

    /** The rows for unwritten changes are used again and again: 33 changes, of which the latest is lost. */
    private static void secondAndThirdSixteen() {
        String routes = Script.each("route(1, 1, #) = true", 1, 2, 3, 4, 5, 6, 7, 8, 9, 10, 11, 12, 13, 14, 15, 16);
        compare("32 changes, 16 are lost", Scenes.EVERY_STATE + routes + "unwritten() = 16\n crash(17) = false\n crash(16) = true\n",
            Scenes.EVERY_STATE + "flush() = 16\n");
        compare("33 changes, 1 is lost", Scenes.EVERY_STATE + routes + "route(1, 0, 2000) = true\n unwritten() = 1\n crash(1) = true\n",
            Scenes.EVERY_STATE + routes + "flush() = 16\n");
    }

    /** "With n = 0 it does what flush does." */
    private static void aCrashOfNoneIsAFlush() {
        compare("16 unwritten", Scenes.EVERY_STATE + "crash(0) = true\n", Scenes.EVERY_STATE + "flush() = 16\n");
        compare("none unwritten", Scenes.WRITTEN + "crash(0) = true\n", Scenes.WRITTEN + "flush() = 0\n");
        compare("a new object", "crash(0) = true\n", "flush() = 0\n");
    }

    /** What a crash left is written, and what comes then can be lost without it. */
    private static void changesAfterACrash() {
        List<String> changes = Arrays.asList(Scenes.CHANGES);
        for (int n = 1; n <= 16; n++) {
            String back = Scenes.EVERY_STATE + "crash(" + n + ") = true\n";
            String again = join(changes.subList(16 - n, 16));
            compare("lost and done again, " + n, back + again + "flush() = " + n, Scenes.EVERY_STATE + "flush() = 16\n");
            compare("lost, done again and lost again, " + n, back + again + "crash(" + n + ") = true\n", back);
        }
    }
}
