/**
 * Each limit of the document: what is empty, the last that goes in, the first that doesn't, and what is
 * still answered when it is full.
 */
public final class LimitsTest {
    private static final Script SCRIPT = new Script();
    private static final String SIX_ROUTES = Script.lines("route(#, 0, 100) = true", 1, 6) + "flush() = 6\n";
    private static final String FULL_OF_KEYS = Scenes.full() + "flush() = 6\n";

    public static void main(String[] args) {
        empty();
        routes();
        cards();
        keys();
        keysWhenFull();
        unwritten();
        items();
        available();
        SCRIPT.finish();
    }

    private static void empty() {
        SCRIPT.run("no cards, routes, keys, items; nothing unwritten", """
            unwritten() = 0
            flush() = 0
            crash(0) = true
            crash(1) = false
            cutoff() = 0
            authorise(0, 1, 10000008, 1, true) = UNKNOWN
            card(10000008, 0, 0) = 1
            authorise(0, 2, 10000008, 1, true) = UNROUTED
            route(1, 0, 0) = true
            authorise(0, 3, 10000008, 1, true) = SHORT
            cutoff() = 0
            unwritten() = 5
            """);
    }

    private static void routes() {
        SCRIPT.run("at most 6 routes: the last that goes in, the first that doesn't",
            Script.lines("route(#, 0, 100) = true\n unwritten() = #", 1, 6), """
            route(7, 0, 100) = false
            route(9999, 3, 2000) = false
            route(10, 0, 100) = false
            unwritten() = 6
            card(70000005, 1000, 0) = 1
            authorise(0, 1, 70000005, 100, false) = UNROUTED
            card(60000007, 1000, 0) = 2
            authorise(0, 2, 60000007, 100, false) = 100
            """);
        SCRIPT.run("each of 6 routes can be given another issuer and rate, and that is a change",
            SIX_ROUTES, Script.lines("route(#, 3, 1000) = true\n unwritten() = #", 1, 6), """
            route(7, 3, 1000) = false
            unwritten() = 6
            card(10000008, 1000, 0) = 1
            authorise(0, 1, 10000008, 100, false) = 100
            present(0, 1, 100) = 10
            position(7) = -93
            """);
        SCRIPT.run("also where it had them before", SIX_ROUTES, "route(6, 0, 100) = true", "unwritten() = 1");
        SCRIPT.run("no two with the same prefix: one that comes again takes no room",
            Script.each("route(1, 0, #) = true", 1, 2, 3, 4, 5, 6, 7, 8), Script.lines("route(#, 0, 100) = true", 2, 6), """
            unwritten() = 13
            route(7, 0, 100) = false
            route(1, 1, 1000) = true
            card(10000008, 1000, 0) = 1
            authorise(0, 1, 10000008, 100, false) = 100
            present(0, 1, 100) = 10
            position(5) = -93
            """);
        SCRIPT.run("a new prefix that begins with one that is there is new", SIX_ROUTES, "route(11, 0, 100) = false",
            "route(60, 0, 100) = false", "unwritten() = 0");
        SCRIPT.run("a lost route makes room", Script.lines("route(#, 0, 100) = true", 1, 6), """
            crash(1) = true
            route(7, 0, 100) = true
            route(6, 0, 100) = false
            """);
    }

    private static String eachCard(String line) {
        StringBuilder text = new StringBuilder();
        for (int number : Scenes.EIGHT_CARDS) {
            text.append(line.replace("#", "" + number)).append('\n');
        }
        return text.toString();
    }

    private static void cards() {
        StringBuilder eight = new StringBuilder();
        for (int i = 0; i < 8; i++) {
            eight.append("card(" + Scenes.EIGHT_CARDS[i] + ", " + (10 + i) + ", 0) = " + (i + 1) + "\n");
            eight.append("unwritten() = " + (i + 1) + "\n");
        }
        SCRIPT.run("at most 8 cards: the last that goes in, the first that doesn't", eight.toString(), """
            card(90000001, 10, 0) = FULL
            card(12034567, 10, 0) = FULL
            unwritten() = 8
            available(90000001) = UNKNOWN
            available(12034567) = UNKNOWN
            available(10000008) = 10
            available(80000003) = 17
            """);
        SCRIPT.run("DUPLICATE when the number is entered already (whatever its balance and floor), also when 8 are there",
            eight.toString(), eachCard("card(#, 99, 0) = DUPLICATE"), eachCard("card(#, 0, 0) = DUPLICATE"),
            eachCard("card(#, 0, 1) = BAD"), "unwritten() = 8", "available(80000003) = 17");
        SCRIPT.run("DUPLICATE when one is there", """
            card(10000008, 5, 1) = 1
            card(10000008, 5, 1) = DUPLICATE
            card(10000008, 1000000, -1000000) = DUPLICATE
            available(10000008) = 4
            unwritten() = 1
            """);
        SCRIPT.run("a lost card makes room", eight.toString(), """
            crash(1) = true
            available(80000003) = UNKNOWN
            card(90000001, 3, 0) = 8
            available(90000001) = 3
            card(80000003, 3, 0) = FULL
            """);
    }

    private static void keys() {
        SCRIPT.run("at most 40 keys, by reverse", Script.lines("reverse(0, #, 0) = 0", 1, 40), """
            reverse(0, 41, 0) = FULL
            reverse(1, 1, 100000) = FULL
            authorise(0, 41, 10000008, 1, false) = FULL
            unwritten() = 8
            state(0, 40) = 5
            state(0, 41) = 0
            state(1, 1) = 0
            """);
        SCRIPT.run("at most 40 keys, by authorise", Script.lines("authorise(3, #, 10000008, 1, true) = UNKNOWN", 1, 40), """
            authorise(3, 41, 10000008, 1, true) = FULL
            reverse(3, 41, 0) = FULL
            authorise(0, 1, 10000008, 1, true) = FULL
            unwritten() = 8
            state(3, 40) = 1
            state(3, 41) = 0
            """);
        SCRIPT.run("all four acquirers share them", Script.lines("reverse(#, 1, 0) = 0", 0, 3),
            Script.lines("reverse(1, #, 0) = 0", 2, 37), "reverse(2, 9999, 0) = FULL",
            "authorise(0, 9999, 10000008, 1, false) = FULL");
        SCRIPT.run("a refused call takes no key", """
            authorise(0, 1, 10000007, 1, false) = BAD
            authorise(0, 2, 10000008, 0, false) = BAD
            reverse(0, 3, -1) = BAD
            present(0, 4, 1) = ABSENT
            chargeback(0, 5) = ABSENT
            represent(0, 6) = ABSENT
            """, Script.lines("reverse(1, #, 0) = 0", 1, 40), "reverse(1, 41, 0) = FULL");
        SCRIPT.run("a lost key makes room", Script.lines("reverse(0, #, 0) = 0", 1, 40), """
            crash(2) = true
            reverse(0, 41, 0) = 0
            authorise(0, 42, 10000008, 1, false) = UNKNOWN
            reverse(0, 39, 0) = FULL
            state(0, 38) = 5
            state(0, 39) = 0
            state(0, 42) = 1
            """);
    }

    /** A key that is in use is answered as ever; one that is released still takes its room. */
    private static void keysWhenFull() {
        SCRIPT.run("requests under keys in use", FULL_OF_KEYS,
            Script.lines("authorise(0, #, 90000001, 100, false) = UNKNOWN", 1, 10),
            Script.lines("authorise(0, #, 90000001, 100, true) = DUPLICATE", 1, 10),
            Script.lines("authorise(1, #, 10000008, 100, false) = 100", 1, 4),
            Script.lines("authorise(1, #, 10000008, 100, false) = BUSY", 5, 10),
            Script.lines("authorise(2, #, 10000008, 100, false) = REVERSED", 1, 10), """
            unwritten() = 0
            authorise(2, 11, 10000008, 100, false) = FULL
            """);
        SCRIPT.run("reversals of keys in use", FULL_OF_KEYS, """
            reverse(0, 1, 0) = 0
            reverse(2, 1, 0) = 0
            reverse(1, 1, 40) = 60
            held(1, 1) = 40
            reverse(1, 1, 0) = 40
            state(1, 1) = 4
            reverse(1, 1, 0) = 0
            reverse(1, 11, 0) = FULL
            authorise(1, 11, 20000006, 100, false) = FULL
            unwritten() = 2
            """);
        SCRIPT.run("presentments and disputes of keys in use", FULL_OF_KEYS, """
            present(1, 2, 100) = 1
            present(1, 2, 100) = 1
            chargeback(1, 2) = 100
            represent(1, 2) = 100
            reverse(1, 2, 0) = LATE
            present(1, 11, 100) = ABSENT
            chargeback(1, 11) = ABSENT
            represent(1, 11) = ABSENT
            state(1, 11) = 0
            held(1, 11) = 0
            cutoff() = 3
            unwritten() = 4
            reverse(1, 11, 0) = FULL
            """);
    }

    private static void unwritten() {
        SCRIPT.run("up to 16 changes are unwritten; the 17th is the only one",
            Script.lines("reverse(0, #, 0) = 0\n unwritten() = #", 1, 16), """
            reverse(0, 17, 0) = 0
            unwritten() = 1
            flush() = 1
            flush() = 0
            """);
        SCRIPT.run("the 33rd is the only one again", Script.lines("reverse(0, #, 0) = 0", 1, 32), """
            unwritten() = 16
            reverse(0, 33, 0) = 0
            unwritten() = 1
            crash(2) = false
            crash(1) = true
            state(0, 32) = 5
            state(0, 33) = 0
            """);
        SCRIPT.run("after 16 a flush writes 16", Script.lines("reverse(0, #, 0) = 0", 1, 16), """
            flush() = 16
            reverse(0, 17, 0) = 0
            unwritten() = 1
            """);
        SCRIPT.run("what is no change writes nothing at 16", Script.lines("reverse(0, #, 0) = 0", 1, 16), """
            reverse(0, 1, 0) = 0
            authorise(0, 1, 10000008, 1, false) = REVERSED
            tick(1) = 1
            cutoff() = 0
            route(0, 0, 0) = false
            unwritten() = 16
            crash(16) = true
            state(0, 1) = 0
            """);
    }

    /** "When that is 0, nothing happens; otherwise each party's position is added to its settled sum and becomes 0". */
    private static void items() {
        String oneByOne = """
            route(1, ISSUER, 1000) = true
            card(10000008, 1000, 0) = 1
            authorise(ACQUIRER, 1, 10000008, 100, false) = 100
            cutoff() = 0
            unwritten() = 3
            present(ACQUIRER, 1, 100) = 10
            reconcile(ACQUIRER, 1, 100) = true
            reconcile(ACQUIRER, 0, 0) = false
            cutoff() = 1
            unwritten() = 5
            reconcile(ACQUIRER, 0, 0) = true
            reconcile(ACQUIRER, 1, 100) = false
            cutoff() = 0
            unwritten() = 5
            settled(ACQUIRER) = 90
            settled(PARTY) = -93
            settled(8) = 3
            position(PARTY) = 0
            chargeback(ACQUIRER, 1) = 100
            position(ACQUIRER) = -100
            position(PARTY) = 100
            cutoff() = 1
            cutoff() = 0
            settled(ACQUIRER) = -10
            settled(PARTY) = 7
            settled(8) = 3
            represent(ACQUIRER, 1) = 100
            position(ACQUIRER) = 100
            position(PARTY) = -100
            position(8) = 0
            cutoff() = 1
            cutoff() = 0
            settled(ACQUIRER) = 90
            settled(PARTY) = -93
            settled(8) = 3
            unwritten() = 9
            """;
        for (int bank = 0; bank <= 3; bank++) {
            SCRIPT.run("one item is enough, none is not", oneByOne.replace("ACQUIRER", "" + bank)
                .replace("ISSUER", "" + (3 - bank)).replace("PARTY", "" + (7 - bank)));
        }
        SCRIPT.run("items that come to nothing are items", """
            route(1, 0, 0) = true
            card(10000008, 1000, 0) = 1
            authorise(0, 1, 10000008, 100, false) = 100
            present(0, 1, 100) = 0
            chargeback(0, 1) = 100
            """, Script.lines("position(#) = 0", 0, 8), "cutoff() = 2", "unwritten() = 6", "cutoff() = 0");
    }

    /** "The amount, when that much is available; what is available, when that is 1 or more and partial is true". */
    private static void available() {
        String[] ends = {"7, false) = 7", "7, true) = 7", "8, false) = SHORT", "8, true) = 7", "6, false) = 6", "100000, true) = 7"};
        for (String end : ends) {
            SCRIPT.run("7 are available", "route(1, 0, 0) = true", "card(10000008, 2, -5) = 1",
                "authorise(0, 1, 10000008, " + end);
        }
        SCRIPT.run("1 is available, then 0", """
            route(1, 0, 0) = true
            card(10000008, -3, -4) = 1
            authorise(0, 1, 10000008, 2, false) = SHORT
            state(0, 1) = 1
            authorise(0, 2, 10000008, 2, true) = 1
            state(0, 2) = 2
            held(0, 2) = 1
            authorise(0, 3, 10000008, 2, true) = SHORT
            state(0, 3) = 1
            authorise(0, 4, 10000008, 1, true) = SHORT
            available(10000008) = 0
            """);
        SCRIPT.run("a lapsed key and what is available: as much, and one less", """
            route(1, 0, 0) = true
            card(10000008, 100, 0) = 1
            authorise(0, 1, 10000008, 60, false) = 60
            tick(50) = 50
            authorise(0, 2, 10000008, 41, false) = 41
            present(0, 1, 61) = OVER
            present(0, 1, 60) = SHORT
            reverse(0, 2, 40) = 1
            present(0, 1, 60) = 0
            available(10000008) = 0
            """);
    }
}
