import java.util.ArrayList;
import java.util.Arrays;
import java.util.List;

/**
 * "All but the clock is as it was before them .. and the others are written": an object that lost changes
 * must answer like one that never had them, and has the clock of the one that had.
 */
public final class LostChangesTest {
    private static final Script SCRIPT = new Script();
    private static final String FLUSHED = Scenes.EVERY_STATE + "flush() = 16\n";

    /** Some of every kind, each of which can be done after EVERY_STATE. */
    private static final String[] FURTHER = {
        "route(2, 1, 50) = true",
        "route(1, 0, 2000) = true",
        "route(1, 3, 1000) = true",
        "card(20000006, 500, 0) = 2",
        "authorise(1, 11, 20000006, 100, false) = UNKNOWN",
        "authorise(1, 11, 10000008, 100, true) = BUSY",
        "reverse(1, 11, 100000) = 0",
        "reverse(1, 2, 99) = 1",
        "reverse(1, 2, 0) = 100",
        "reverse(1, 3, 1) = 99",
        "reverse(1, 3, 0) = 100",
        "present(1, 2, 100) = 4",
        "present(1, 3, 100) = 4",
        "present(1, 2, 1) = 1",
        "chargeback(1, 6) = 100",
        "represent(1, 7) = 100",
        "cutoff() = 5",
    };

    public static void main(String[] args) {
        theLatestOfSixteen();
        withTicksBetween();
        withATickBeforeTheCrash();
        aSeventeenth();
        anApprovalAsTheSeventeenth();
        eachKindAlone();
        secondAndThirdSixteen();
        aCrashOfNoneIsAFlush();
        changesAfterACrash();
        otherKeysAfterACrash();
        SCRIPT.finish();
    }

    private static String join(List<String> lines) {
        return String.join("\n", lines);
    }

    private static void compare(String title, List<String> lost, List<String> never) {
        CardSwitch one = SCRIPT.run(title, lost.toArray(new String[0]));
        CardSwitch other = SCRIPT.run(title, never.toArray(new String[0]));
        SCRIPT.alike(title, "after all", Answers.of(one), Answers.of(other));
    }

    private static void theLatestOfSixteen() {
        List<String> changes = Arrays.asList(Scenes.CHANGES);
        for (int n = 0; n <= 16; n++) {
            compare("the latest " + n + " of 16 are lost",
                List.of(Scenes.EVERY_STATE, "crash(" + n + ") = true", "unwritten() = 0", "crash(1) = false"),
                List.of(Scenes.WRITTEN, join(changes.subList(0, 16 - n)), "flush() = " + (16 - n)));
        }
    }

    /** The ticks come in the lost part too; the object that never had the changes has the ticks all the same. */
    private static void withTicksBetween() {
        for (int n = 0; n <= 16; n++) {
            List<String> all = new ArrayList<>();
            List<String> kept = new ArrayList<>();
            for (int i = 0; i < 16; i++) {
                String tick = "tick(1) = " + (51 + i);
                all.add(Scenes.CHANGES[i]);
                all.add(tick);
                if (i < 16 - n) {
                    kept.add(Scenes.CHANGES[i]);
                }
                kept.add(tick);
            }
            compare("the latest " + n + " of 16 are lost, the ticks are not",
                List.of(Scenes.WRITTEN, join(all), "crash(" + n + ") = true"),
                List.of(Scenes.WRITTEN, join(kept), "flush() = " + (16 - n)));
        }
    }

    /** Between the changes and the crash the clock goes on to where holds lapse and chargebacks are closed, and over it. */
    private static void withATickBeforeTheCrash() {
        List<String> changes = Arrays.asList(Scenes.CHANGES);
        for (int ticks : new int[] {9, 10, 29, 30, 31, 32, 49, 50, 51, 100}) {
            String tick = "tick(" + ticks + ") = " + (50 + ticks);
            for (int n = 0; n <= 16; n++) {
                compare("the latest " + n + " of 16 are lost after " + tick,
                    List.of(Scenes.EVERY_STATE, tick, "crash(" + n + ") = true"),
                    List.of(Scenes.WRITTEN, join(changes.subList(0, 16 - n)), tick, "flush() = " + (16 - n)));
            }
            for (String change : FURTHER) {
                compare("lost after " + tick + ": " + change, List.of(FLUSHED, change, tick, "crash(1) = true"), List.of(FLUSHED, tick));
            }
        }
    }

    /** "These 16 are written first, and the new one is the only unwritten one." */
    private static void aSeventeenth() {
        for (String change : FURTHER) {
            compare("the 17th is lost: " + change,
                List.of(Scenes.EVERY_STATE, change, "unwritten() = 1", "crash(2) = false", "crash(1) = true"), List.of(FLUSHED));
            compare("the 17th is written: " + change,
                List.of(Scenes.EVERY_STATE, change, "flush() = 1"), List.of(FLUSHED, change, "flush() = 1"));
        }
    }

    /** EVERY_STATE is BUSY at its clock, so the approvals come ten later. */
    private static void anApprovalAsTheSeventeenth() {
        String[] approvals = {"authorise(1, 11, 10000008, 100, false) = 100", "authorise(0, 1, 10000008, 2000, true) = 1500"};
        for (String approval : approvals) {
            compare("an approval is lost",
                List.of(Scenes.EVERY_STATE, "tick(10) = 60", approval, "unwritten() = 1", "crash(1) = true"),
                List.of(FLUSHED, "tick(10) = 60"));
            compare("an approval stays",
                List.of(Scenes.EVERY_STATE, "tick(10) = 60", approval, "crash(0) = true"),
                List.of(FLUSHED, "tick(10) = 60", approval, "flush() = 1"));
        }
    }

    private static void eachKindAlone() {
        for (String change : FURTHER) {
            compare("lost: " + change, List.of(FLUSHED, change, "unwritten() = 1", "crash(1) = true"), List.of(FLUSHED));
            compare("lost with another: " + change,
                List.of(FLUSHED, "reverse(0, 9999, 0) = 0", change, "unwritten() = 2", "crash(2) = true"), List.of(FLUSHED));
            compare("lost and done again: " + change,
                List.of(FLUSHED, change, "crash(1) = true", change, "flush() = 1"), List.of(FLUSHED, change, "flush() = 1"));
        }
    }

    /** The rows for unwritten changes are used again and again. */
    private static void secondAndThirdSixteen() {
        String sixteen = Script.lines("route(1, 1, #) = true", 1, 16);
        compare("32 changes, 16 are lost",
            List.of(Scenes.EVERY_STATE, sixteen, "unwritten() = 16", "crash(17) = false", "crash(16) = true"), List.of(FLUSHED));
        compare("33 changes, 1 is lost",
            List.of(Scenes.EVERY_STATE, sixteen, "route(1, 0, 2000) = true", "unwritten() = 1", "crash(1) = true"),
            List.of(FLUSHED, sixteen, "flush() = 16"));
    }

    /** "With n = 0 it does what flush does." */
    private static void aCrashOfNoneIsAFlush() {
        compare("16 unwritten", List.of(Scenes.EVERY_STATE, "crash(0) = true"), List.of(FLUSHED));
        compare("none unwritten", List.of(Scenes.WRITTEN, "crash(0) = true"), List.of(Scenes.WRITTEN, "flush() = 0"));
        compare("a new object", List.of("crash(0) = true"), List.of("flush() = 0"));
    }

    /** What a crash left is written, and what comes then can be lost without it. */
    private static void changesAfterACrash() {
        List<String> changes = Arrays.asList(Scenes.CHANGES);
        for (int n = 1; n <= 16; n++) {
            String crash = "crash(" + n + ") = true";
            String again = join(changes.subList(16 - n, 16));
            compare("lost and done again, " + n, List.of(Scenes.EVERY_STATE, crash, again, "flush() = " + n), List.of(FLUSHED));
            compare("lost, done again and lost again, " + n,
                List.of(Scenes.EVERY_STATE, crash, again, crash), List.of(Scenes.EVERY_STATE, crash));
        }
    }

    /** Nothing of the lost keys may come back with the keys that come into use next. */
    private static void otherKeysAfterACrash() {
        String young = "route(1, 2, 400) = true\n card(10000008, 2000, 0) = 1\n flush() = 2\n";
        String stops = Script.lines("reverse(0, #, 0) = 0", 1, 4);
        String declined = Script.lines("authorise(2, #, 10000008, 100, true) = BUSY", 1, 4);
        String approved = Script.lines("authorise(1, #, 10000008, 100, true) = 100", 5, 8);
        String others = Script.lines("authorise(2, #, 10000008, 50, false) = 50", 1, 4);
        for (String start : new String[] {young, Scenes.WRITTEN}) {
            compare("stopped keys in place of approvals", List.of(start, approved, "crash(4) = true", stops), List.of(start, stops));
            compare("approvals in place of disputes",
                List.of(start, approved, "present(1, 5, 100) = 4", "chargeback(1, 5) = 100", "crash(6) = true", others),
                List.of(start, others));
        }
        compare("declined keys in place of stopped ones",
            List.of(FLUSHED, stops, "crash(4) = true", declined), List.of(FLUSHED, declined));
    }
}
