/** Objects in which much has come about, as lines of calls for several tests. */
final class Scenes {
    private Scenes() {
    }

    /** Two routes, two cards; the written part of EVERY_STATE. The clock is 50 at the end. */
    static final String WRITTEN = """
        route(1, 2, 400) = true
        card(10000008, 2000, 0) = 1
        authorise(1, 3, 10000008, 100, false) = 100
        authorise(1, 4, 10000008, 100, false) = 100
        authorise(1, 9, 10000008, 100, false) = 100
        authorise(1, 10, 10000008, 100, false) = 100
        present(1, 9, 100) = 4
        present(1, 10, 100) = 4
        chargeback(1, 9) = 100
        tick(50) = 50
        flush() = 9
        """;

    /** Sixteen changes, of every kind. */
    static final String[] CHANGES = {
        "authorise(1, 2, 10000008, 100, false) = 100",
        "authorise(1, 6, 10000008, 100, false) = 100",
        "authorise(1, 7, 10000008, 100, false) = 100",
        "authorise(1, 8, 10000008, 100, false) = 100",
        "authorise(1, 1, 10000008, 100, false) = BUSY",
        "reverse(1, 4, 60) = 40",
        "reverse(1, 4, 0) = 60",
        "reverse(1, 5, 0) = 0",
        "present(1, 6, 100) = 4",
        "cutoff() = 4",
        "present(1, 7, 100) = 4",
        "chargeback(1, 7) = 100",
        "present(1, 8, 100) = 4",
        "route(1, 3, 1000) = true",
        "chargeback(1, 8) = 100",
        "represent(1, 8) = 100",
    };

    /** The key (1, s) is in state s; (1, 10) is CLEARED too long ago. 16 changes are unwritten, 5 items are there. */
    static final String EVERY_STATE = WRITTEN + String.join("\n", CHANGES) + "\n";

    static final int[] EIGHT_CARDS = {10000008, 20000006, 30000004, 40000002, 50000009, 60000007, 70000005, 80000003};

    /** 6 routes (prefixes 1 .. 6), 8 cards, 40 keys: declined (0, #), held or declined (1, #), stopped (2, #) and (3, #). */
    static String full() {
        StringBuilder text = new StringBuilder(Script.lines("route(#, 0, 100) = true", 1, 6));
        for (int i = 0; i < EIGHT_CARDS.length; i++) {
            text.append("card(" + EIGHT_CARDS[i] + ", 1000, 0) = " + (i + 1) + "\n");
        }
        text.append(Script.lines("authorise(0, #, 90000001, 100, false) = UNKNOWN", 1, 10));
        text.append(Script.lines("authorise(1, #, 10000008, 100, false) = 100", 1, 4));
        text.append(Script.lines("authorise(1, #, 10000008, 100, false) = BUSY", 5, 10));
        text.append(Script.lines("reverse(2, #, 0) = 0\n reverse(3, #, 100000) = 0", 1, 10));
        return text.toString();
    }
}
