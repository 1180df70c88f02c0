/**
 * "Refusals are tested in the order in which a comment names them; for every call that names BAD it comes
 * first": calls to which two or more refusals would fit.
 */
public final class RefusalOrderTest {
    private static final Script SCRIPT = new Script();
    private static final String FULL = Scenes.full() + "flush() = 6\n";

    public static void main(String[] args) {
        cards();
        badRequests();
        requestsInUseBeforeFull();
        fullBeforeTheRest();
        unknownUnroutedBusyShort();
        reversals();
        presentments();
        disputes();
        SCRIPT.finish();
    }

    private static void cards() {
        SCRIPT.run("BAD before DUPLICATE", """
            card(10000008, 10, 0) = 1
            card(10000008, 0, 1) = BAD
            card(10000008, 1000001, 0) = BAD
            card(10000008, 0, -1000001) = BAD
            card(10000008, 10, 0) = DUPLICATE
            """);
        SCRIPT.run("BAD before FULL, DUPLICATE before FULL", FULL, """
            card(90000002, 10, 0) = BAD
            card(90000001, 0, 1) = BAD
            card(90000001, 1000001, 0) = BAD
            card(90000001, 0, -1000001) = BAD
            card(10000008, 0, 1) = BAD
            card(10000008, 10, 0) = DUPLICATE
            card(90000001, 10, 0) = FULL
            """);
    }

    private static void badRequests() {
        String[] bad = {"10000007, 100, false) = BAD", "10000008, 0, false) = BAD", "10000008, 100001, true) = BAD",
            "90000002, 100, false) = BAD", "90000001, 0, false) = BAD"};
        for (String end : bad) {
            SCRIPT.run("BAD before what the key's state asks", Scenes.EVERY_STATE, Script.lines("authorise(1, #, " + end, 1, 11));
            SCRIPT.run("BAD before FULL, REVERSED and DUPLICATE", FULL, Script.each("authorise(#, 11, " + end, 0, 1, 2, 3),
                Script.each("authorise(#, 1, " + end, 0, 1, 2, 3));
            SCRIPT.run("BAD before UNKNOWN and UNROUTED", "authorise(0, 1, " + end, "unwritten() = 0");
        }
        SCRIPT.run("a wrong key before FULL", FULL, """
            authorise(4, 1, 10000008, 100, false) = BAD
            authorise(0, 0, 10000008, 100, false) = BAD
            authorise(0, 10000, 10000008, 100, false) = BAD
            """);
    }

    private static void requestsInUseBeforeFull() {
        SCRIPT.run("a key in use before FULL", FULL, """
            authorise(2, 1, 90000001, 1, true) = REVERSED
            authorise(3, 10, 10000008, 100, false) = REVERSED
            authorise(0, 1, 90000001, 100, false) = UNKNOWN
            authorise(0, 1, 10000008, 100, false) = DUPLICATE
            authorise(1, 1, 10000008, 100, false) = 100
            authorise(1, 1, 10000008, 100, true) = DUPLICATE
            authorise(1, 5, 10000008, 100, false) = BUSY
            authorise(1, 5, 10000008, 100000, false) = DUPLICATE
            """);
        SCRIPT.run("the answer of then, though it would be another one now", """
            authorise(0, 1, 10000008, 100, true) = UNKNOWN
            card(10000008, 50, 0) = 1
            authorise(0, 2, 10000008, 100, true) = UNROUTED
            route(1, 0, 0) = true
            authorise(0, 1, 10000008, 100, true) = UNKNOWN
            authorise(0, 2, 10000008, 100, true) = UNROUTED
            authorise(0, 3, 10000008, 100, true) = 50
            authorise(0, 4, 10000008, 100, true) = SHORT
            reverse(0, 3, 0) = 50
            authorise(0, 3, 10000008, 100, true) = 50
            authorise(0, 4, 10000008, 100, true) = SHORT
            authorise(0, 1, 10000008, 100, false) = DUPLICATE
            authorise(0, 2, 10000008, 99, true) = DUPLICATE
            authorise(0, 4, 20000006, 100, true) = DUPLICATE
            """);
    }

    /** All but the number of keys would be answered otherwise: an approval, BUSY, SHORT, UNKNOWN, UNROUTED. */
    private static void fullBeforeTheRest() {
        SCRIPT.run("FULL before what the card asks", FULL, """
            authorise(1, 11, 20000006, 100, false) = FULL
            authorise(1, 11, 10000008, 100, false) = FULL
            authorise(1, 11, 20000006, 100000, false) = FULL
            authorise(1, 11, 90000001, 100, false) = FULL
            authorise(1, 11, 70000005, 100, false) = FULL
            unwritten() = 0
            """);
    }

    private static void unknownUnroutedBusyShort() {
        SCRIPT.run("UNKNOWN where there is no route either", "authorise(0, 1, 10000008, 100, true) = UNKNOWN");
        SCRIPT.run("UNKNOWN where there is a route", "route(1, 0, 0) = true", "authorise(0, 1, 10000008, 100, true) = UNKNOWN");
        SCRIPT.run("UNROUTED before SHORT", "card(10000008, 0, 0) = 1", "authorise(0, 1, 10000008, 100, true) = UNROUTED",
            "authorise(0, 2, 10000008, 100, false) = UNROUTED");
        SCRIPT.run("BUSY before SHORT, and before a part", """
            route(1, 0, 0) = true
            card(10000008, 100, 0) = 1
            """, Script.lines("authorise(0, #, 10000008, 20, false) = 20", 1, 4), """
            authorise(0, 5, 10000008, 21, false) = BUSY
            authorise(0, 6, 10000008, 21, true) = BUSY
            authorise(0, 7, 10000008, 20, false) = BUSY
            reverse(0, 1, 0) = 20
            authorise(0, 8, 10000008, 21, false) = BUSY
            tick(10) = 10
            authorise(0, 9, 10000008, 41, false) = SHORT
            authorise(0, 10, 10000008, 41, true) = 40
            """);
        SCRIPT.run("BUSY where nothing is available", """
            route(1, 0, 0) = true
            card(10000008, 4, 0) = 1
            """, Script.lines("authorise(0, #, 10000008, 1, false) = 1", 1, 4), "authorise(0, 5, 10000008, 1, true) = BUSY");
    }

    private static void reversals() {
        for (String left : new String[] {"-1", "100001", "-2147483648", "2147483647"}) {
            SCRIPT.run("BAD before LATE and before 0", Scenes.EVERY_STATE,
                Script.lines("reverse(1, #, " + left + ") = BAD", 1, 11));
            SCRIPT.run("BAD before FULL", FULL, "reverse(0, 11, " + left + ") = BAD", "reverse(2, 1, " + left + ") = BAD");
        }
        SCRIPT.run("a wrong key before FULL", FULL,
            "reverse(4, 1, 0) = BAD", "reverse(0, 0, 0) = BAD", "reverse(0, 10000, 0) = BAD");
        SCRIPT.run("a key in use before FULL", FULL, """
            reverse(0, 1, 0) = 0
            reverse(1, 1, 100) = 0
            reverse(1, 1, 99) = 1
            reverse(1, 5, 0) = 0
            reverse(2, 1, 0) = 0
            present(1, 2, 100) = 1
            reverse(1, 2, 0) = LATE
            reverse(1, 11, 0) = FULL
            """);
    }

    private static void presentments() {
        for (String amount : new String[] {"0", "-1", "100001", "-2147483648", "2147483647"}) {
            SCRIPT.run("BAD in every state", Scenes.EVERY_STATE, Script.lines("present(1, #, " + amount + ") = BAD", 1, 11));
        }
        SCRIPT.run("DUPLICATE, not OVER, in states 6 to 9", Scenes.EVERY_STATE,
            Script.lines("present(1, #, 100000) = DUPLICATE", 6, 10));
        SCRIPT.run("ABSENT before OVER", Scenes.EVERY_STATE, Script.each("present(1, #, 100000) = ABSENT", 1, 4, 5, 11));
        SCRIPT.run("OVER before SHORT", """
            route(1, 0, 0) = true
            card(10000008, 100, 0) = 1
            authorise(0, 1, 10000008, 60, false) = 60
            tick(50) = 50
            authorise(0, 2, 10000008, 100, false) = 100
            present(0, 1, 61) = OVER
            present(0, 1, 60) = SHORT
            present(0, 1, 1) = SHORT
            """);
        SCRIPT.run("the same amount again, though it would be SHORT now", """
            route(1, 0, 1000) = true
            card(10000008, 100, 0) = 1
            authorise(0, 1, 10000008, 100, false) = 100
            present(0, 1, 60) = 6
            present(0, 1, 60) = 6
            present(0, 1, 40) = DUPLICATE
            present(0, 1, 100) = DUPLICATE
            """);
    }

    /** What is long ago is LATE only where the document says so. */
    private static void disputes() {
        SCRIPT.run("chargeback after a long time", Scenes.EVERY_STATE, "tick(100) = 150",
            Script.lines("chargeback(1, #) = ABSENT", 1, 5), "chargeback(1, 11) = ABSENT", "chargeback(1, 6) = LATE",
            Script.lines("chargeback(1, #) = 0", 7, 9), "chargeback(1, 10) = LATE",
            "chargeback(1, 0) = BAD", "chargeback(4, 6) = BAD");
        SCRIPT.run("represent after a long time", Scenes.EVERY_STATE, "tick(100) = 150",
            Script.lines("represent(1, #) = ABSENT", 1, 6), "represent(1, 11) = ABSENT", "represent(1, 7) = LATE",
            "represent(1, 8) = 0", "represent(1, 9) = LATE", "represent(1, 10) = ABSENT",
            "represent(1, 0) = BAD", "represent(4, 7) = BAD");
        SCRIPT.run("reverse after a long time", Scenes.EVERY_STATE, "tick(100) = 150",
            Script.lines("reverse(1, #, 0) = LATE", 6, 10),
            Script.each("reverse(1, #, 0) = 0", 1, 4, 5), Script.each("reverse(1, #, 0) = 100", 2, 3));
    }
}
