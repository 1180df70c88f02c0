public final class Promise04AuthoriseTest {
    private static final String START = """
        route(1, 0, 100) = true
        card(10000008, 1000, 0) = 1
        flush() = 2
        """;

    public static void main(String[] args) {
        Script script = new Script();
        wrongArguments(script);
        answers(script);
        repeats(script);
        room(script);
        busy(script);
        script.finish();
    }

    private static void wrongArguments(Script script) {
        script.run("wrong arguments", START, """
            authorise(-1, 1, 10000008, 1, false) = BAD
            authorise(4, 1, 10000008, 1, false) = BAD
            authorise(0, 0, 10000008, 1, false) = BAD
            authorise(0, 10000, 10000008, 1, false) = BAD
            authorise(0, 1, 10000007, 1, false) = BAD
            authorise(0, 1, 0, 1, false) = BAD
            authorise(0, 1, 10000008, 0, false) = BAD
            authorise(0, 1, 10000008, -5, true) = BAD
            authorise(0, 1, 10000008, 100001, true) = BAD
            unwritten() = 0
            state(0, 1) = 0
            authorise(0, 1, 10000008, 1, false) = 1
            authorise(3, 9999, 10000008, 100000, true) = 999
            unwritten() = 2
            """);
        script.run("BAD comes before what the key's state asks", START, """
            reverse(0, 1, 0) = 0
            authorise(0, 1, 10000007, 1, false) = BAD
            authorise(0, 1, 10000008, 0, false) = BAD
            authorise(0, 1, 10000008, 1, false) = REVERSED
            """);
    }

    private static void answers(Script script) {
        script.run("UNKNOWN comes before UNROUTED, and both bring the key into use", """
            authorise(0, 1, 20000006, 5, false) = UNKNOWN
            state(0, 1) = 1
            card(20000006, 0, 0) = 1
            authorise(0, 2, 20000006, 5, true) = UNROUTED
            state(0, 2) = 1
            unwritten() = 3
            route(2, 0, 0) = true
            authorise(0, 3, 20000006, 5, true) = SHORT
            state(0, 3) = 1
            held(0, 3) = 0
            unwritten() = 5
            """);
        script.run("as much as is available, and no more", START, """
            authorise(0, 1, 10000008, 1001, false) = SHORT
            authorise(0, 2, 10000008, 1000, false) = 1000
            state(0, 2) = 2
            held(0, 2) = 1000
            available(10000008) = 0
            authorise(0, 3, 10000008, 1, true) = SHORT
            authorise(0, 4, 10000008, 1, false) = SHORT
            unwritten() = 4
            """);
        script.run("a part", START, """
            authorise(0, 1, 10000008, 999, true) = 999
            authorise(0, 2, 10000008, 2, false) = SHORT
            authorise(0, 3, 10000008, 2, true) = 1
            held(0, 3) = 1
            state(0, 3) = 2
            available(10000008) = 0
            """);
        script.run("the floor counts", """
            route(1, 0, 0) = true
            card(10000008, -50, -80) = 1
            authorise(0, 1, 10000008, 31, false) = SHORT
            authorise(0, 2, 10000008, 30, false) = 30
            """);
        script.run("the hold starts at this clock", START, """
            tick(7) = 7
            authorise(0, 1, 10000008, 10, false) = 10
            tick(49) = 56
            state(0, 1) = 2
            tick(1) = 57
            state(0, 1) = 3
            """);
    }

    private static void repeats(Script script) {
        script.run("the same request is answered the same, whatever came afterwards", START, """
            authorise(0, 1, 10000008, 600, true) = 600
            authorise(0, 2, 10000008, 600, true) = 400
            authorise(0, 3, 10000008, 600, true) = SHORT
            unwritten() = 3
            reverse(0, 1, 100) = 500
            authorise(0, 1, 10000008, 600, true) = 600
            reverse(0, 1, 0) = 100
            authorise(0, 1, 10000008, 600, true) = 600
            authorise(0, 2, 10000008, 600, true) = 400
            authorise(0, 3, 10000008, 600, true) = SHORT
            present(0, 2, 300) = 3
            authorise(0, 2, 10000008, 600, true) = 400
            chargeback(0, 2) = 300
            authorise(0, 2, 10000008, 600, true) = 400
            represent(0, 2) = 300
            authorise(0, 2, 10000008, 600, true) = 400
            unwritten() = 8
            """);
        script.run("another request under the key", START, """
            card(20000006, 1000, 0) = 2
            authorise(0, 1, 10000008, 600, true) = 600
            authorise(0, 2, 20000006, 600, true) = UNROUTED
            authorise(0, 1, 20000006, 600, true) = DUPLICATE
            authorise(0, 1, 10000008, 599, true) = DUPLICATE
            authorise(0, 1, 10000008, 600, false) = DUPLICATE
            authorise(0, 2, 20000006, 600, false) = DUPLICATE
            authorise(0, 2, 20000006, 600, true) = UNROUTED
            unwritten() = 3
            reverse(0, 1, 0) = 600
            authorise(0, 1, 10000008, 5, true) = DUPLICATE
            """);
        script.run("acquirer and trace are both of the key", START, """
            authorise(0, 1, 10000008, 10, false) = 10
            authorise(1, 1, 10000008, 20, false) = 20
            authorise(0, 2, 10000008, 30, false) = 30
            held(0, 1) = 10
            held(1, 1) = 20
            held(0, 2) = 30
            state(1, 2) = 0
            """);
        script.run("a partial approval is not repeated as a request for its amount", START, """
            authorise(0, 1, 10000008, 1500, true) = 1000
            authorise(0, 1, 10000008, 1000, true) = DUPLICATE
            authorise(0, 1, 10000008, 1500, true) = 1000
            """);
    }

    private static void room(Script script) {
        script.run("forty keys, declined and stopped ones too", START,
            Script.lines("authorise(0, #, 20000006, 5, false) = UNKNOWN", 1, 20),
            Script.lines("reverse(1, #, 0) = 0", 1, 19), """
            authorise(2, 1, 10000008, 7, false) = 7
            flush() = 8
            authorise(2, 2, 10000008, 7, false) = FULL
            authorise(2, 2, 20000006, 7, false) = FULL
            authorise(2, 2, 20000005, 7, false) = BAD
            state(2, 2) = 0
            unwritten() = 0
            authorise(2, 1, 10000008, 7, false) = 7
            authorise(0, 1, 20000006, 5, false) = UNKNOWN
            authorise(0, 1, 20000006, 6, false) = DUPLICATE
            authorise(1, 1, 20000006, 5, false) = REVERSED
            """);
    }

    private static void busy(Script script) {
        script.run("four approvals at clocks greater than the clock - 10", START, """
            authorise(0, 1, 10000008, 1, false) = 1
            tick(1) = 1
            authorise(0, 2, 10000008, 1, false) = 1
            authorise(0, 3, 10000008, 1, false) = 1
            authorise(0, 4, 10000008, 2000, false) = SHORT
            authorise(0, 5, 10000008, 1, false) = 1
            tick(8) = 9
            authorise(0, 6, 10000008, 1, false) = BUSY
            state(0, 6) = 1
            authorise(0, 7, 10000008, 2000, false) = BUSY
            tick(1) = 10
            authorise(0, 8, 10000008, 1, false) = 1
            authorise(0, 9, 10000008, 1, false) = BUSY
            authorise(0, 6, 10000008, 1, false) = BUSY
            tick(1) = 11
            authorise(0, 10, 10000008, 1, false) = 1
            """);
        script.run("whatever became of them", START, """
            authorise(0, 1, 10000008, 10, false) = 10
            authorise(0, 2, 10000008, 10, false) = 10
            authorise(0, 3, 10000008, 10, false) = 10
            authorise(0, 4, 10000008, 10, false) = 10
            reverse(0, 1, 0) = 10
            present(0, 2, 10) = 1
            tick(5) = 5
            present(0, 3, 10) = 1
            chargeback(0, 3) = 10
            authorise(0, 5, 10000008, 10, false) = BUSY
            tick(5) = 10
            authorise(0, 6, 10000008, 10, false) = 10
            authorise(0, 7, 10000008, 10, false) = 10
            authorise(0, 8, 10000008, 10, false) = 10
            authorise(0, 9, 10000008, 10, false) = 10
            authorise(0, 10, 10000008, 10, false) = BUSY
            """);
        script.run("each card for itself; lost approvals don't count", START, """
            route(2, 0, 0) = true
            card(20000006, 1000, 0) = 2
            authorise(0, 1, 10000008, 10, false) = 10
            authorise(0, 2, 10000008, 10, false) = 10
            authorise(0, 3, 10000008, 10, false) = 10
            authorise(0, 4, 10000008, 10, false) = 10
            authorise(1, 5, 20000006, 10, false) = 10
            authorise(1, 6, 10000008, 10, false) = BUSY
            crash(3) = true
            authorise(1, 7, 10000008, 10, false) = 10
            authorise(1, 8, 10000008, 10, false) = BUSY
            """);
        script.run("UNROUTED comes before BUSY", """
            card(10000008, 100, 0) = 1
            flush() = 1
            route(1, 0, 0) = true
            authorise(0, 1, 10000008, 1, false) = 1
            authorise(0, 2, 10000008, 1, false) = 1
            authorise(0, 3, 10000008, 1, false) = 1
            authorise(0, 4, 10000008, 1, false) = 1
            authorise(0, 5, 10000008, 1, false) = BUSY
            crash(6) = true
            authorise(0, 5, 10000008, 1, false) = UNROUTED
            """);
    }
}
